section
-- ===== PART A: goes FIRST, ahead of the names: the tables' words, and 'selects' of the private methods out of them =====
/-- a private method of a class that the tables say can be made, by its rows of tables_1 -/
def lw_okq (q : MethodName × Nat) : Prop := (q.1.cls ≠ "java/lang/invoke/MethodHandle" ∧ q.1.cls ≠ "java/lang/invoke/VarHandle") ∧ Cond.instantiable q.1.cls q.2 ∈ tables_1 ∧ Cond.privateMethod q.1 ∈ tables_1 ∧ Cond.instanceMethod q.1 ∈ tables_1
theorem lw_p0 : lw_okq (⟨"PumiceSledge", "sacksAboard", "()I"⟩, 12) := ⟨⟨by decide +kernel, by decide +kernel⟩, List.mem_of_getElem? (i := 15) (by decide +kernel), List.mem_of_getElem? (i := 130) (by decide +kernel), List.mem_of_getElem? (i := 131) (by decide +kernel)⟩
theorem lw_p1 : lw_okq (⟨"java/lang/Throwable", "fillInStackTrace", "(I)Ljava/lang/Throwable;"⟩, 6) := ⟨⟨by decide +kernel, by decide +kernel⟩, List.mem_of_getElem? (i := 188) (by decide +kernel), List.mem_of_getElem? (i := 186) (by decide +kernel), List.mem_of_getElem? (i := 187) (by decide +kernel)⟩
theorem lw_p2 : lw_okq (⟨"PumiceSledge", "gustAt", "(I)I"⟩, 12) := ⟨⟨by decide +kernel, by decide +kernel⟩, List.mem_of_getElem? (i := 15) (by decide +kernel), List.mem_of_getElem? (i := 218) (by decide +kernel), List.mem_of_getElem? (i := 219) (by decide +kernel)⟩
theorem lw_p3 : lw_okq (⟨"PumiceSledge", "allStones", "()I"⟩, 12) := ⟨⟨by decide +kernel, by decide +kernel⟩, List.mem_of_getElem? (i := 15) (by decide +kernel), List.mem_of_getElem? (i := 229) (by decide +kernel), List.mem_of_getElem? (i := 230) (by decide +kernel)⟩
theorem lw_p4 : lw_okq (⟨"PumiceSledge", "withLayer", "(JI)J"⟩, 12) := ⟨⟨by decide +kernel, by decide +kernel⟩, List.mem_of_getElem? (i := 15) (by decide +kernel), List.mem_of_getElem? (i := 237) (by decide +kernel), List.mem_of_getElem? (i := 238) (by decide +kernel)⟩
theorem lw_p5 : lw_okq (⟨"PumiceSledge", "sackWeight", "(I)I"⟩, 12) := ⟨⟨by decide +kernel, by decide +kernel⟩, List.mem_of_getElem? (i := 15) (by decide +kernel), List.mem_of_getElem? (i := 250) (by decide +kernel), List.mem_of_getElem? (i := 251) (by decide +kernel)⟩
theorem lw_p6 : lw_okq (⟨"PumiceSledge", "withSledge", "(JI)J"⟩, 12) := ⟨⟨by decide +kernel, by decide +kernel⟩, List.mem_of_getElem? (i := 15) (by decide +kernel), List.mem_of_getElem? (i := 257) (by decide +kernel), List.mem_of_getElem? (i := 258) (by decide +kernel)⟩
theorem lw_p7 : lw_okq (⟨"PumiceSledge", "isSledge", "(I)Z"⟩, 12) := ⟨⟨by decide +kernel, by decide +kernel⟩, List.mem_of_getElem? (i := 15) (by decide +kernel), List.mem_of_getElem? (i := 265) (by decide +kernel), List.mem_of_getElem? (i := 266) (by decide +kernel)⟩
theorem lw_p8 : lw_okq (⟨"PumiceSledge", "withBoat", "(JI)J"⟩, 12) := ⟨⟨by decide +kernel, by decide +kernel⟩, List.mem_of_getElem? (i := 15) (by decide +kernel), List.mem_of_getElem? (i := 276) (by decide +kernel), List.mem_of_getElem? (i := 277) (by decide +kernel)⟩
theorem lw_p9 : lw_okq (⟨"PumiceSledge", "isBoat", "(I)Z"⟩, 12) := ⟨⟨by decide +kernel, by decide +kernel⟩, List.mem_of_getElem? (i := 15) (by decide +kernel), List.mem_of_getElem? (i := 284) (by decide +kernel), List.mem_of_getElem? (i := 285) (by decide +kernel)⟩
theorem lw_p10 : lw_okq (⟨"PumiceSledge", "passOneHour", "()V"⟩, 12) := ⟨⟨by decide +kernel, by decide +kernel⟩, List.mem_of_getElem? (i := 15) (by decide +kernel), List.mem_of_getElem? (i := 469) (by decide +kernel), List.mem_of_getElem? (i := 470) (by decide +kernel)⟩
theorem lw_p11 : lw_okq (⟨"PumiceSledge$Sledge", "comeDown", "(ILPumiceSledge$Shore;)V"⟩, 5) := ⟨⟨by decide +kernel, by decide +kernel⟩, List.mem_of_getElem? (i := 44) (by decide +kernel), List.mem_of_getElem? (i := 477) (by decide +kernel), List.mem_of_getElem? (i := 478) (by decide +kernel)⟩
theorem lw_p12 : lw_okq (⟨"PumiceSledge$Sledge", "unload", "(LPumiceSledge$Shore;)V"⟩, 5) := ⟨⟨by decide +kernel, by decide +kernel⟩, List.mem_of_getElem? (i := 44) (by decide +kernel), List.mem_of_getElem? (i := 484) (by decide +kernel), List.mem_of_getElem? (i := 485) (by decide +kernel)⟩
theorem lw_p13 : lw_okq (⟨"PumiceSledge$Sledge", "comeUp", "()V"⟩, 5) := ⟨⟨by decide +kernel, by decide +kernel⟩, List.mem_of_getElem? (i := 44) (by decide +kernel), List.mem_of_getElem? (i := 488) (by decide +kernel), List.mem_of_getElem? (i := 489) (by decide +kernel)⟩
theorem lw_p14 : lw_okq (⟨"PumiceSledge", "aboardBehind", "(ILPumiceSledge$Sledge;)I"⟩, 12) := ⟨⟨by decide +kernel, by decide +kernel⟩, List.mem_of_getElem? (i := 15) (by decide +kernel), List.mem_of_getElem? (i := 537) (by decide +kernel), List.mem_of_getElem? (i := 538) (by decide +kernel)⟩
theorem lw_p15 : lw_okq (⟨"PumiceSledgeModel", "fail", "(I)I"⟩, 9) := ⟨⟨by decide +kernel, by decide +kernel⟩, List.mem_of_getElem? (i := 541) (by decide +kernel), List.mem_of_getElem? (i := 589) (by decide +kernel), List.mem_of_getElem? (i := 590) (by decide +kernel)⟩
def lw_privs_1 : List (MethodName × Nat) := [(⟨"PumiceSledge", "sacksAboard", "()I"⟩, 12), (⟨"java/lang/Throwable", "fillInStackTrace", "(I)Ljava/lang/Throwable;"⟩, 6), (⟨"PumiceSledge", "gustAt", "(I)I"⟩, 12), (⟨"PumiceSledge", "allStones", "()I"⟩, 12), (⟨"PumiceSledge", "withLayer", "(JI)J"⟩, 12), (⟨"PumiceSledge", "sackWeight", "(I)I"⟩, 12), (⟨"PumiceSledge", "withSledge", "(JI)J"⟩, 12), (⟨"PumiceSledge", "isSledge", "(I)Z"⟩, 12), (⟨"PumiceSledge", "withBoat", "(JI)J"⟩, 12), (⟨"PumiceSledge", "isBoat", "(I)Z"⟩, 12), (⟨"PumiceSledge", "passOneHour", "()V"⟩, 12), (⟨"PumiceSledge$Sledge", "comeDown", "(ILPumiceSledge$Shore;)V"⟩, 5), (⟨"PumiceSledge$Sledge", "unload", "(LPumiceSledge$Shore;)V"⟩, 5), (⟨"PumiceSledge$Sledge", "comeUp", "()V"⟩, 5), (⟨"PumiceSledge", "aboardBehind", "(ILPumiceSledge$Sledge;)I"⟩, 12), (⟨"PumiceSledgeModel", "fail", "(I)I"⟩, 9)]
theorem lw_r1 : ∀ q ∈ lw_privs_1, lw_okq q := List.forall_mem_cons.mpr ⟨lw_p0, List.forall_mem_cons.mpr ⟨lw_p1, List.forall_mem_cons.mpr ⟨lw_p2, List.forall_mem_cons.mpr ⟨lw_p3, List.forall_mem_cons.mpr ⟨lw_p4, List.forall_mem_cons.mpr ⟨lw_p5, List.forall_mem_cons.mpr ⟨lw_p6, List.forall_mem_cons.mpr ⟨lw_p7, List.forall_mem_cons.mpr ⟨lw_p8, List.forall_mem_cons.mpr ⟨lw_p9, List.forall_mem_cons.mpr ⟨lw_p10, List.forall_mem_cons.mpr ⟨lw_p11, List.forall_mem_cons.mpr ⟨lw_p12, List.forall_mem_cons.mpr ⟨lw_p13, List.forall_mem_cons.mpr ⟨lw_p14, List.forall_mem_cons.mpr ⟨lw_p15, fun _ h => absurd h List.not_mem_nil⟩⟩⟩⟩⟩⟩⟩⟩⟩⟩⟩⟩⟩⟩⟩⟩
theorem lw_p16 : lw_okq (⟨"PumiceSledgeModel", "put", "(III)V"⟩, 9) := ⟨⟨by decide +kernel, by decide +kernel⟩, List.mem_of_getElem? (i := 541) (by decide +kernel), List.mem_of_getElem? (i := 601) (by decide +kernel), List.mem_of_getElem? (i := 602) (by decide +kernel)⟩
theorem lw_p17 : lw_okq (⟨"PumiceSledgeModel", "isSledge", "(I)Z"⟩, 9) := ⟨⟨by decide +kernel, by decide +kernel⟩, List.mem_of_getElem? (i := 541) (by decide +kernel), List.mem_of_getElem? (i := 609) (by decide +kernel), List.mem_of_getElem? (i := 610) (by decide +kernel)⟩
theorem lw_p18 : lw_okq (⟨"PumiceSledgeModel", "sl", "(II)I"⟩, 9) := ⟨⟨by decide +kernel, by decide +kernel⟩, List.mem_of_getElem? (i := 541) (by decide +kernel), List.mem_of_getElem? (i := 613) (by decide +kernel), List.mem_of_getElem? (i := 614) (by decide +kernel)⟩
theorem lw_p19 : lw_okq (⟨"PumiceSledgeModel", "isBoat", "(I)Z"⟩, 9) := ⟨⟨by decide +kernel, by decide +kernel⟩, List.mem_of_getElem? (i := 541) (by decide +kernel), List.mem_of_getElem? (i := 632) (by decide +kernel), List.mem_of_getElem? (i := 633) (by decide +kernel)⟩
theorem lw_p20 : lw_okq (⟨"PumiceSledgeModel", "all", "(I)I"⟩, 9) := ⟨⟨by decide +kernel, by decide +kernel⟩, List.mem_of_getElem? (i := 541) (by decide +kernel), List.mem_of_getElem? (i := 636) (by decide +kernel), List.mem_of_getElem? (i := 637) (by decide +kernel)⟩
theorem lw_p21 : lw_okq (⟨"PumiceSledgeModel", "bo", "(II)I"⟩, 9) := ⟨⟨by decide +kernel, by decide +kernel⟩, List.mem_of_getElem? (i := 541) (by decide +kernel), List.mem_of_getElem? (i := 640) (by decide +kernel), List.mem_of_getElem? (i := 641) (by decide +kernel)⟩
theorem lw_p22 : lw_okq (⟨"PumiceSledgeModel", "canSail", "(I)Z"⟩, 9) := ⟨⟨by decide +kernel, by decide +kernel⟩, List.mem_of_getElem? (i := 541) (by decide +kernel), List.mem_of_getElem? (i := 651) (by decide +kernel), List.mem_of_getElem? (i := 652) (by decide +kernel)⟩
theorem lw_p23 : lw_okq (⟨"PumiceSledgeModel", "layerTold", "(II)I"⟩, 9) := ⟨⟨by decide +kernel, by decide +kernel⟩, List.mem_of_getElem? (i := 541) (by decide +kernel), List.mem_of_getElem? (i := 663) (by decide +kernel), List.mem_of_getElem? (i := 664) (by decide +kernel)⟩
theorem lw_p24 : lw_okq (⟨"PumiceSledgeModel", "sledgeTold", "(II)I"⟩, 9) := ⟨⟨by decide +kernel, by decide +kernel⟩, List.mem_of_getElem? (i := 541) (by decide +kernel), List.mem_of_getElem? (i := 671) (by decide +kernel), List.mem_of_getElem? (i := 672) (by decide +kernel)⟩
theorem lw_p25 : lw_okq (⟨"PumiceSledgeModel", "boatTold", "(II)I"⟩, 9) := ⟨⟨by decide +kernel, by decide +kernel⟩, List.mem_of_getElem? (i := 541) (by decide +kernel), List.mem_of_getElem? (i := 679) (by decide +kernel), List.mem_of_getElem? (i := 680) (by decide +kernel)⟩
theorem lw_p26 : lw_okq (⟨"PumiceSledgeModel", "counted", "(I)I"⟩, 9) := ⟨⟨by decide +kernel, by decide +kernel⟩, List.mem_of_getElem? (i := 541) (by decide +kernel), List.mem_of_getElem? (i := 691) (by decide +kernel), List.mem_of_getElem? (i := 692) (by decide +kernel)⟩
theorem lw_p27 : lw_okq (⟨"PumiceSledgeModel", "gust", "()I"⟩, 9) := ⟨⟨by decide +kernel, by decide +kernel⟩, List.mem_of_getElem? (i := 541) (by decide +kernel), List.mem_of_getElem? (i := 695) (by decide +kernel), List.mem_of_getElem? (i := 696) (by decide +kernel)⟩
theorem lw_p28 : lw_okq (⟨"PumiceSledgeModel", "aboard", "()I"⟩, 9) := ⟨⟨by decide +kernel, by decide +kernel⟩, List.mem_of_getElem? (i := 541) (by decide +kernel), List.mem_of_getElem? (i := 699) (by decide +kernel), List.mem_of_getElem? (i := 700) (by decide +kernel)⟩
theorem lw_p29 : lw_okq (⟨"PumiceSledgeModel", "ashore", "()I"⟩, 9) := ⟨⟨by decide +kernel, by decide +kernel⟩, List.mem_of_getElem? (i := 541) (by decide +kernel), List.mem_of_getElem? (i := 703) (by decide +kernel), List.mem_of_getElem? (i := 704) (by decide +kernel)⟩
theorem lw_p30 : lw_okq (⟨"PumiceSledgeModel", "hoursOn", "(I)I"⟩, 9) := ⟨⟨by decide +kernel, by decide +kernel⟩, List.mem_of_getElem? (i := 541) (by decide +kernel), List.mem_of_getElem? (i := 711) (by decide +kernel), List.mem_of_getElem? (i := 712) (by decide +kernel)⟩
theorem lw_p31 : lw_okq (⟨"PumiceSledgeModel", "hourOn", "()V"⟩, 9) := ⟨⟨by decide +kernel, by decide +kernel⟩, List.mem_of_getElem? (i := 541) (by decide +kernel), List.mem_of_getElem? (i := 715) (by decide +kernel), List.mem_of_getElem? (i := 716) (by decide +kernel)⟩
def lw_privs_2 : List (MethodName × Nat) := [(⟨"PumiceSledgeModel", "put", "(III)V"⟩, 9), (⟨"PumiceSledgeModel", "isSledge", "(I)Z"⟩, 9), (⟨"PumiceSledgeModel", "sl", "(II)I"⟩, 9), (⟨"PumiceSledgeModel", "isBoat", "(I)Z"⟩, 9), (⟨"PumiceSledgeModel", "all", "(I)I"⟩, 9), (⟨"PumiceSledgeModel", "bo", "(II)I"⟩, 9), (⟨"PumiceSledgeModel", "canSail", "(I)Z"⟩, 9), (⟨"PumiceSledgeModel", "layerTold", "(II)I"⟩, 9), (⟨"PumiceSledgeModel", "sledgeTold", "(II)I"⟩, 9), (⟨"PumiceSledgeModel", "boatTold", "(II)I"⟩, 9), (⟨"PumiceSledgeModel", "counted", "(I)I"⟩, 9), (⟨"PumiceSledgeModel", "gust", "()I"⟩, 9), (⟨"PumiceSledgeModel", "aboard", "()I"⟩, 9), (⟨"PumiceSledgeModel", "ashore", "()I"⟩, 9), (⟨"PumiceSledgeModel", "hoursOn", "(I)I"⟩, 9), (⟨"PumiceSledgeModel", "hourOn", "()V"⟩, 9)]
theorem lw_r2 : ∀ q ∈ lw_privs_2, lw_okq q := List.forall_mem_cons.mpr ⟨lw_p16, List.forall_mem_cons.mpr ⟨lw_p17, List.forall_mem_cons.mpr ⟨lw_p18, List.forall_mem_cons.mpr ⟨lw_p19, List.forall_mem_cons.mpr ⟨lw_p20, List.forall_mem_cons.mpr ⟨lw_p21, List.forall_mem_cons.mpr ⟨lw_p22, List.forall_mem_cons.mpr ⟨lw_p23, List.forall_mem_cons.mpr ⟨lw_p24, List.forall_mem_cons.mpr ⟨lw_p25, List.forall_mem_cons.mpr ⟨lw_p26, List.forall_mem_cons.mpr ⟨lw_p27, List.forall_mem_cons.mpr ⟨lw_p28, List.forall_mem_cons.mpr ⟨lw_p29, List.forall_mem_cons.mpr ⟨lw_p30, List.forall_mem_cons.mpr ⟨lw_p31, fun _ h => absurd h List.not_mem_nil⟩⟩⟩⟩⟩⟩⟩⟩⟩⟩⟩⟩⟩⟩⟩⟩
theorem lw_p32 : lw_okq (⟨"PumiceSledgeModel", "slide", "(I)V"⟩, 9) := ⟨⟨by decide +kernel, by decide +kernel⟩, List.mem_of_getElem? (i := 541) (by decide +kernel), List.mem_of_getElem? (i := 719) (by decide +kernel), List.mem_of_getElem? (i := 720) (by decide +kernel)⟩
theorem lw_p33 : lw_okq (⟨"PumiceSledgeModel", "climb", "(I)V"⟩, 9) := ⟨⟨by decide +kernel, by decide +kernel⟩, List.mem_of_getElem? (i := 541) (by decide +kernel), List.mem_of_getElem? (i := 724) (by decide +kernel), List.mem_of_getElem? (i := 725) (by decide +kernel)⟩
theorem lw_p34 : lw_okq (⟨"PumiceSledgeModel", "unload", "(I)V"⟩, 9) := ⟨⟨by decide +kernel, by decide +kernel⟩, List.mem_of_getElem? (i := 541) (by decide +kernel), List.mem_of_getElem? (i := 729) (by decide +kernel), List.mem_of_getElem? (i := 730) (by decide +kernel)⟩
theorem lw_p35 : lw_okq (⟨"PumiceSledgeModel", "kept", "()[[I"⟩, 9) := ⟨⟨by decide +kernel, by decide +kernel⟩, List.mem_of_getElem? (i := 541) (by decide +kernel), List.mem_of_getElem? (i := 737) (by decide +kernel), List.mem_of_getElem? (i := 738) (by decide +kernel)⟩
theorem lw_p36 : lw_okq (⟨"PumiceSledgeModel", "bringBack", "([[I)V"⟩, 9) := ⟨⟨by decide +kernel, by decide +kernel⟩, List.mem_of_getElem? (i := 541) (by decide +kernel), List.mem_of_getElem? (i := 749) (by decide +kernel), List.mem_of_getElem? (i := 750) (by decide +kernel)⟩
def lw_privs_3 : List (MethodName × Nat) := [(⟨"PumiceSledgeModel", "slide", "(I)V"⟩, 9), (⟨"PumiceSledgeModel", "climb", "(I)V"⟩, 9), (⟨"PumiceSledgeModel", "unload", "(I)V"⟩, 9), (⟨"PumiceSledgeModel", "kept", "()[[I"⟩, 9), (⟨"PumiceSledgeModel", "bringBack", "([[I)V"⟩, 9)]
theorem lw_r3 : ∀ q ∈ lw_privs_3, lw_okq q := List.forall_mem_cons.mpr ⟨lw_p32, List.forall_mem_cons.mpr ⟨lw_p33, List.forall_mem_cons.mpr ⟨lw_p34, List.forall_mem_cons.mpr ⟨lw_p35, List.forall_mem_cons.mpr ⟨lw_p36, fun _ h => absurd h List.not_mem_nil⟩⟩⟩⟩⟩
def lw_privs : List (MethodName × Nat) := lw_privs_1 ++ (lw_privs_2 ++ (lw_privs_3))
def lw_tbl : List Cond := k2_sels lw_privs ++ tables_1
theorem lw_privs_ok : ∀ q ∈ lw_privs, lw_okq q := by
  show ∀ q ∈ lw_privs_1 ++ (lw_privs_2 ++ (lw_privs_3)), lw_okq q
  exact List.forall_mem_append.mpr ⟨lw_r1, List.forall_mem_append.mpr ⟨lw_r2, lw_r3⟩⟩
/-- the streams that the claim lets the run draw from -/
abbrev lw_cs : List Choice := [Jvm.Choice.named "NaN.bits"]
theorem lw_bits : nanBits ∈ lw_cs := by first | decide | exact List.mem_cons_self | simp [lw_cs, nanBits]
-- ===== end of PART A; then your names; then what follows =====
end
section
/-! ===== BEGIN words of one list among another's, by their places ===== -/
theorem goodIn_r {big : List Cond} (ws : List Cond) (ps : List Nat) (hp : ws = ps.filterMap (fun i => big[i]?)) (h : ws.all goodWord = true) : GoodIn big ws := by
  intro w hw
  have h1 := List.all_eq_true.mp h w hw
  rw [hp] at hw
  obtain ⟨i, -, hi⟩ := List.mem_filterMap.mp hw
  have hm : w ∈ big := by first | exact List.mem_of_getElem? hi | exact List.getElem?_mem hi
  exact ⟨hm, good_of_word h1⟩
theorem goodIn_app {big a b : List Cond} (ha : GoodIn big a) (hb : GoodIn big b) : GoodIn big (a ++ b) := fun w h => (List.mem_append.mp h).elim (ha w) (hb w)
theorem goodIn_ca {big a b : List Cond} {c : Cond} (ha : GoodIn big (c :: a)) (hb : GoodIn big b) : GoodIn big (c :: (a ++ b)) := fun w h => (List.mem_cons.mp h).elim (fun e => ha w (List.mem_cons.mpr (Or.inl e))) (fun h => (List.mem_append.mp h).elim (fun h => ha w (List.mem_cons.mpr (Or.inr h))) (hb w))
theorem goodIn_sub {big ws : List Cond} (hm : ∀ w ∈ ws, w ∈ big) (h : ws.all goodWord = true) : GoodIn big ws := fun w hw => ⟨hm w hw, good_of_word (List.all_eq_true.mp h w hw)⟩
/-! ===== END ===== -/

/-! ===== BEGIN exceptions that leave a method, and their catching by the caller (launches without stack traces) ===== -/
section VXA
/-! The laws vx_back, vx_callV, vx_callS, vx_callSW, vx_throw0, vx_throwS follow proofs of the library, with one case more: JvmDerived/Free/Laws.lean (Back.of_free), Shelf42/LK1.lean (callV, callS), Shelf/KitTraced.lean (throwNew0V, throwNewS). -/
/-- where a method has thrown q: the class by its name, the cell, what was written, the world -/
def vx_T (XC : String → State → State → Prop) (st : State) (q : Addr) (t : State) (mc ms : Nat) (free : Addr → Prop) : Prop :=
  ∃ (E : String) (ce : Cell) (L : List Loc), XC E st t ∧ t.heap[q]? = some ce ∧ ce.vm = .none ∧ st.vm.findClass E = some ce.cls ∧ st.WarmedH t.vm ∧ st.sameButNew ({ t with vm := st.vm } : State) L mc ms ∧ ∀ z ∈ L, free z.base
def vx_Q (Qc : Array Value → State → Outcome → State → Prop) (XC : String → State → State → Prop) (mc ms : Nat) (free : Addr → Prop) : Array Value → State → Outcome → State → Prop := fun a st o t =>
  (Qc a st o t ∧ ∃ L, FrameEnd st o t L mc ms ∧ ∀ q ∈ L, free q.base) ∨ ∃ q, o = .threw q ∧ vx_T XC st q t mc ms free
/-- a callee that returns or throws -/
def vx_Met (l : Launch) (y : MethodName) (ws : List Cond) (rm : Room) (Pc : Array Value → State → Prop) (Qc : Array Value → State → Outcome → State → Prop) (XC : String → State → State → Prop) (mc ms : Nat) (free : Addr → Prop) : Prop :=
  MetFree l y (headSpec ws rm) Pc (fun _ _ _ _ _ => True) (vx_Q Qc XC mc ms free)
def vx_Post (XC : String → State → State → Prop) (mc ms : Nat) (free : Addr → Prop) : Pt → Array Value → Addr → Pt → Prop := fun A a q B =>
  ∃ (g : JFrame) (mk : MethodId) (t : State) (L : List Loc) (E : String) (ce : Cell), B.U.heap = t.heap ∧ B.U.vm = t.vm ∧ XC E (A.U.calling g mk a) t ∧ t.heap[q]? = some ce ∧ ce.vm = .none ∧ A.U.vm.findClass E = some ce.cls ∧ B.locs = A.locs ++ L ∧ (∀ z ∈ L, free z.base) ∧ B.cells = A.cells + mc ∧ B.slots = A.slots + ms
def vx_Back (l : Launch) (R : Room) (p : Program) (e : Env) (below : List Frame) (s : State) (sargs : Array Value) (y : MethodName) (len W9 : Nat)
    (Pre : Pt → Array Value → Prop) (Post : Pt → Array Value → Option Value → Pt → Prop) (PostX : Pt → Array Value → Addr → Pt → Prop) : Prop :=
  ∀ (m : MethodId) (meth : Method) (c : Code) (A : Pt) (g : JFrame) (ig : Instr) (mk : MethodId) (a : Array Value),
    Stand p l e R s m sargs below meth c A.U A.locs A.cells A.slots → g.method = m → g.locals.size = c.maxLocals → decode c.code g.pc = .ok (ig, len) →
    2 * g.monitorRoom + (g.stack.map fun v => v.category).sum ≤ W9 → A.U.methodNamed? y = some mk → Pre A a →
    (∃ (v : Option Value) (B : Pt), Stand p l e R s m sargs below meth c B.U B.locs B.cells B.slots ∧ Post A a v B ∧
      Steps p.tables e below (doInvoke e (A.U.setTop g) [] mk a).1 (B.U.setTop { g with pc := g.pc + len, stack := v.toList ++ g.stack })) ∨
    (∃ (q : Addr) (B : Pt), Stand p l e R s m sargs below meth c B.U B.locs B.cells B.slots ∧ PostX A a q B ∧
      Steps p.tables e below (doInvoke e (A.U.setTop g) [] mk a).1 ((B.U.setTop g).pushFrame (.throwing q)))
section Payer
variable {l : Launch} {R : Room} {p : Program} {e : Env} {below : List Frame} {s : State} {sargs : Array Value} {y : MethodName} {len W9 : Nat}
theorem vx_back {ws : List Cond} {rm : Room} {Pc : Array Value → State → Prop} {Qc : Array Value → State → Outcome → State → Prop} {XC : String → State → State → Prop} {mc ms : Nat} {free : Addr → Prop} {bytes : ByteArray} {maxL : Nat} {ret : Option FieldType}
    (hM : vx_Met l y ws rm Pc Qc XC mc ms free) (hblind : FrameBlind Pc) (hrc : rm.cells = mc) (hrs : rm.slots = ms)
    (hframes : rm.frames + 1 ≤ R.frames) (hlocals : W9 + (maxL + 11) + rm.locals ≤ R.locals)
    (hws : ∀ w ∈ ws, ∀ a' U, s.WarmedH U.vm → w.before a' U = true) (hcode : Cond.code y bytes maxL ret ∈ ws) (hinit : ∀ a' U, s.WarmedH U.vm → (Cond.initialized y.cls).before a' U = true) :
    vx_Back l R p e below s sargs y len W9 (PreOf R mc ms Pc) (PostOf Qc mc ms free) (vx_Post XC mc ms free) := by
  intro m meth c A g ig mk a X hg hsize hdg hW hn hp
  have h1 : (headSpec ws rm).pre.before a A.U = true := atoms_intro fun w hw => hws w hw _ _ X.warmed
  have h2 : (Cond.code y bytes maxL ret).before a A.U = true := hws _ hcode _ _ X.warmed
  have h3 : (Cond.initialized y.cls).before a A.U = true := hinit _ _ X.warmed
  have h4 : A.cells + (headSpec ws rm).room.cells ≤ R.cells := by rw [show (headSpec ws rm).room.cells = mc from hrc]; exact hp.1
  have h5 : A.slots + (headSpec ws rm).room.slots ≤ R.slots := by rw [show (headSpec ws rm).room.slots = ms from hrs]; exact hp.2.1
  have hPc : Pc a (A.U.calling g mk a) := hblind _ _ _ _ hp.2.2
  obtain ⟨U, Ls, c0, s0⟩ := A
  dsimp only [Pt.U, Pt.locs, Pt.cells, Pt.slots] at h1 h2 h3 h4 h5 X hn hPc ⊢
  obtain ⟨methY, cY, hmY, hcY, -, hlY, -, -, -, -⟩ := Cond.code_spec hn h2
  obtain ⟨kY, hkY, -⟩ := className_of_methodNamed hn
  have hinitY : kY.init = .initialized := Cond.initialized_spec (findClass_of_methodNamed hn) hkY h3
  have h : At U g.method c below := by rw [hg]; exact X.here
  have hlocals9 : W9 + (maxL + 11) + (headSpec ws rm).room.locals ≤ R.locals := hlocals
  have happ : (headSpec ws rm).appliesLoose y e.platform (U.calling g mk a) = true :=
    Spec.appliesLoose_calling (g := g) h hdg hn hkY hinitY
      (X.room_calling (g := g) (R' := (headSpec ws rm).room) hsize hmY hcY hframes (by rw [hlY]; omega) h4 h5) h1
  obtain ⟨mid, hmid⟩ := h.above
  have hfr : (U.setTop g).frames = (.java g :: mid) ++ below := by rw [State.frames_setTop' g h.top, hmid]; rfl
  obtain ⟨o, s₂, hsteps, -, hend, hq⟩ := Steps.callFree hM p X.admits X.cas X.clock (acts := []) hfr happ hPc trivial
  have hq' : vx_Q Qc XC mc ms free a (U.calling g mk a) o s₂ := hq
  rw [State.frames_setTop' g h.top] at hend
  obtain ⟨g₀, hg0⟩ := Option.isSome_iff_exists.mp h.top
  obtain ⟨r, hr⟩ := State.topJava?_eq_some.mp hg0
  have hr' : (({ U with heap := s₂.heap, slotsUsed := s₂.slotsUsed } : State).setVm s₂.vm).frames = .java g₀ :: r := hr
  rcases hq' with ⟨hqc, L, hfe, hL⟩ | ⟨q, rfl, E, ce, L, hx, hce, hcv, hcl, hW₂, hsm, hL⟩
  · obtain ⟨⟨v, rfl⟩, hW₂, e2, q2, q3, q4, q5, q6⟩ := id hfe
    have e3 : s₂ = ({ (U.calling g mk a).setFrames s₂.frames with heap := s₂.heap, slotsUsed := s₂.slotsUsed } : State).setVm s₂.vm := by
      have : s₂ = ({ s₂ with vm := (U.calling g mk a).vm } : State).setVm s₂.vm := rfl
      rw [e2] at this
      exact this
    obtain ⟨c₂, i₂, len₂, hc₂, hd₂, hf₂⟩ := hend
    have hW' : U.WarmedH s₂.vm := hW₂
    have hcc : c₂ = c := by
      have h1 : s₂.code? g.method = U.code? g.method := by
        rw [State.code?_eq, State.code?_eq, hW'.alike.method?]
      exact Option.some.inj (hc₂.symm.trans (h1.trans h.code))
    subst hcc
    have hlen : len₂ = len := by rw [hdg] at hd₂; cases hd₂; rfl
    subst hlen
    have hs₂ : s₂ = (({ U with heap := s₂.heap, slotsUsed := s₂.slotsUsed } : State).setVm s₂.vm).setTop { g with pc := g.pc + len₂, stack := v.toList ++ g.stack } := by
      refine e3.trans ?_
      rw [hf₂, State.calling_eq h.top, State.setFrames_setFrames, State.setTop_of_frames _ hr', hr]
      rfl
    have hsame : U.sameButNew ({ U with heap := s₂.heap, slotsUsed := s₂.slotsUsed } : State) L mc ms := by
      refine ⟨?_, q2, q3, q4, q5, q6⟩
      obtain ⟨t, ht, -⟩ := State.frames_cons hr
      show ({ U with heap := s₂.heap, slotsUsed := s₂.slotsUsed } : State) = { U.setFrames U.frames with heap := s₂.heap, slotsUsed := s₂.slotsUsed }
      rw [State.setFrames_self ht]
    subst hg
    refine Or.inl ⟨v, ⟨(({ U with heap := s₂.heap, slotsUsed := s₂.slotsUsed } : State).setVm s₂.vm), Ls ++ L, c0 + mc, s0 + ms⟩,
      ⟨X.admits, X.cas, X.clock, X.frames, X.room, X.hears, X.method, X.code, (X.here.setHeapUsed s₂.heap s₂.slotsUsed).setVm hW'.alike, X.tail, State.WarmedH.trans X.warmed hW', X.limits, X.bytes, X.same.trans (hsame.setVm s.vm)⟩,
      ⟨g, mk, s₂, L, rfl, rfl, hqc, rfl, hL, rfl, rfl⟩, ?_⟩
    show Steps p.tables e below _ ((({ U with heap := s₂.heap, slotsUsed := s₂.slotsUsed } : State).setVm s₂.vm).setTop { g with pc := g.pc + len₂, stack := v.toList ++ g.stack })
    rw [← hs₂]
    exact hsteps
  · obtain ⟨e2, q2, q3, q4, q5, q6⟩ := id hsm
    have e3 : s₂ = ({ (U.calling g mk a).setFrames s₂.frames with heap := s₂.heap, slotsUsed := s₂.slotsUsed } : State).setVm s₂.vm := by
      have : s₂ = ({ s₂ with vm := (U.calling g mk a).vm } : State).setVm s₂.vm := rfl
      rw [e2] at this
      exact this
    have hf₂ : s₂.frames = .throwing q :: .java g :: U.frames.tail := hend
    have hW' : U.WarmedH s₂.vm := hW₂
    have hs₂ : s₂ = ((({ U with heap := s₂.heap, slotsUsed := s₂.slotsUsed } : State).setVm s₂.vm).setTop g).pushFrame (.throwing q) := by
      refine e3.trans ?_
      rw [hf₂, State.calling_eq h.top, State.setFrames_setFrames, State.pushFrame, State.frames_setTop _ hr', State.setTop_of_frames _ hr', State.setFrames_setFrames, hr]
      rfl
    have hsame : U.sameButNew ({ U with heap := s₂.heap, slotsUsed := s₂.slotsUsed } : State) L mc ms := by
      refine ⟨?_, q2, q3, q4, q5, q6⟩
      obtain ⟨t, ht, -⟩ := State.frames_cons hr
      show ({ U with heap := s₂.heap, slotsUsed := s₂.slotsUsed } : State) = { U.setFrames U.frames with heap := s₂.heap, slotsUsed := s₂.slotsUsed }
      rw [State.setFrames_self ht]
    subst hg
    refine Or.inr ⟨q, ⟨(({ U with heap := s₂.heap, slotsUsed := s₂.slotsUsed } : State).setVm s₂.vm), Ls ++ L, c0 + mc, s0 + ms⟩,
      ⟨X.admits, X.cas, X.clock, X.frames, X.room, X.hears, X.method, X.code, (X.here.setHeapUsed s₂.heap s₂.slotsUsed).setVm hW'.alike, X.tail, State.WarmedH.trans X.warmed hW', X.limits, X.bytes, X.same.trans (hsame.setVm s.vm)⟩,
      ⟨g, mk, s₂, L, E, ce, rfl, rfl, hx, hce, hcv, hcl, rfl, hL, rfl, rfl⟩, ?_⟩
    show Steps p.tables e below _ (((({ U with heap := s₂.heap, slotsUsed := s₂.slotsUsed } : State).setVm s₂.vm).setTop g).pushFrame (.throwing q))
    rw [← hs₂]
    exact hsteps
end Payer
section Calls
variable {p : Program} {l : Launch} {e : Env} {R : Room} {s : State} {m : MethodId} {args : Array Value} {below : List Frame} {meth : Method} {c : Code} {T : State} {locs : List Loc} {cells slots : Nat}
theorem vx_callV (X : Stand p l e R s m args below meth c T locs cells slots) (hexec : p.tables.exec = Jvm.exec) {own C : String} {index : Nat} {y : MethodName} {bytes : ByteArray} {maxL : Nat} {ret : Option FieldType}
    (hown : s.vm.findClass own = some m.cls) (hlink : (Cond.methodLink own index y).before args s = true) (hinst : (Cond.instanceMethod y).before args s = true) (hsel : (Cond.selects C y y).before args s = true)
    (hcode : (Cond.code y bytes maxL ret).before args s = true) (hy : y.cls ≠ "java/lang/invoke/MethodHandle" ∧ y.cls ≠ "java/lang/invoke/VarHandle")
    {W9 : Nat} {Pre : Pt → Array Value → Prop} {Post : Pt → Array Value → Option Value → Pt → Prop} {PostX : Pt → Array Value → Addr → Pt → Prop} (hK : vx_Back l R p e below s args y 3 W9 Pre Post PostX)
    {b : Addr} {cellB : Cell} (hcell : T.heap[b]? = some cellB) (hobj : cellB.vm.isStatics = false) (hcls : s.vm.findClass C = some cellB.cls)
    {g : JFrame} (hg : g.method = m) (hsize : g.locals.size = c.maxLocals) {argsL rest : List Value} (hlen : ∀ sig, parseMethodDescriptor y.desc = some sig → argsL.length = sig.parameters.length)
    (hstack : g.stack = argsL.reverse ++ .ref b :: rest) (hW : 2 * g.monitorRoom + (rest.map fun v => v.category).sum ≤ W9) (hdg : decode c.code g.pc = .ok (.invokevirtual index, 3))
    (hpre : ∀ vm₁, s.WarmedH vm₁ → Pre ⟨T.setVm vm₁, locs, cells, slots⟩ (Value.ref b :: argsL).toArray) :
    (∃ (v : Option Value) (vm₁ : Vm) (B : Pt), s.WarmedH vm₁ ∧ Stand p l e R s m args below meth c B.U B.locs B.cells B.slots ∧ Post ⟨T.setVm vm₁, locs, cells, slots⟩ (Value.ref b :: argsL).toArray v B ∧
      ∀ target, Steps p.tables e below (B.U.setTop { g with pc := g.pc + 3, stack := v.toList ++ rest }) target → Steps p.tables e below (T.setTop g) target) ∨
    (∃ (q : Addr) (vm₁ : Vm) (B : Pt), s.WarmedH vm₁ ∧ Stand p l e R s m args below meth c B.U B.locs B.cells B.slots ∧ PostX ⟨T.setVm vm₁, locs, cells, slots⟩ (Value.ref b :: argsL).toArray q B ∧
      Steps p.tables e below (T.setTop g) ((B.U.setTop { g with stack := rest }).pushFrame (.throwing q))) := by
  obtain ⟨mk, methM, hnamed, hmethM, hstM, habM⟩ := Cond.instanceMethod_spec hinst
  obtain ⟨methM', cM, hmethM', -, -, -, -, -, -, hsigM⟩ := Cond.code_spec hnamed hcode
  cases hmethM.symm.trans hmethM'
  obtain ⟨c2, r2, m2, q1, q2, q3, q4, kP, hkP, hkPi⟩ := Cond.selects_spec hsel
  cases hcls.symm.trans q1
  cases (State.methodFound?_of_named hnamed hy).symm.trans q2
  cases hnamed.symm.trans q3
  have hselP : selectMethod e.platform s.vm cellB.cls mk = .method mk := by rw [Launch.admits_selectMethod X.admits]; exact q4
  obtain ⟨vm₁, X₁, hstep₁⟩ := X.invokevirtual hexec hown hlink hnamed hmethM hstM hkP hkPi hy (a := b) (cell := cellB) hcell
    (fun z h => by rw [h] at hobj; cases hobj) hselP hmethM habM hkP hkPi (g := g) hg (argsL := argsL) (rest := rest) (hlen _ hsigM) hstack hdg
  rcases hK m meth c ⟨T.setVm vm₁, locs, cells, slots⟩ { g with stack := rest } (.invokevirtual index) mk (Value.ref b :: argsL).toArray X₁ hg hsize hdg hW (X₁.named hnamed) (hpre vm₁ X₁.warmed) with ⟨v, B, X', hpost, hsteps⟩ | ⟨q, B, X', hpost, hsteps⟩
  · exact Or.inl ⟨v, vm₁, B, X₁.warmed, X', hpost, fun target h => hstep₁ _ fun acts => by rw [doInvoke_state]; exact hsteps.trans h⟩
  · exact Or.inr ⟨q, vm₁, B, X₁.warmed, X', hpost, hstep₁ _ fun acts => by rw [doInvoke_state]; exact hsteps⟩
theorem vx_callS (X : Stand p l e R s m args below meth c T locs cells slots) (hexec : p.tables.exec = Jvm.exec) {own : String} {index : Nat} {y : MethodName} {bytes : ByteArray} {maxL : Nat} {ret : Option FieldType}
    (hown : s.vm.findClass own = some m.cls) (hlink : (Cond.methodLink own index y).before args s = true) (hstat : (Cond.static y).before args s = true) (hinit : (Cond.initialized y.cls).before args s = true)
    (hcode : (Cond.code y bytes maxL ret).before args s = true) (hy : y.cls ≠ "java/lang/invoke/MethodHandle" ∧ y.cls ≠ "java/lang/invoke/VarHandle")
    {W9 : Nat} {Pre : Pt → Array Value → Prop} {Post : Pt → Array Value → Option Value → Pt → Prop} {PostX : Pt → Array Value → Addr → Pt → Prop} (hK : vx_Back l R p e below s args y 3 W9 Pre Post PostX)
    {g : JFrame} (hg : g.method = m) (hsize : g.locals.size = c.maxLocals) {argsL rest : List Value} (hlen : ∀ sig, parseMethodDescriptor y.desc = some sig → argsL.length = sig.parameters.length)
    (hstack : g.stack = argsL.reverse ++ rest) (hW : 2 * g.monitorRoom + (rest.map fun v => v.category).sum ≤ W9) (hdg : decode c.code g.pc = .ok (.invokestatic index, 3))
    (hpre : ∀ vm₁, s.WarmedH vm₁ → Pre ⟨T.setVm vm₁, locs, cells, slots⟩ argsL.toArray) :
    (∃ (v : Option Value) (vm₁ : Vm) (B : Pt), s.WarmedH vm₁ ∧ Stand p l e R s m args below meth c B.U B.locs B.cells B.slots ∧ Post ⟨T.setVm vm₁, locs, cells, slots⟩ argsL.toArray v B ∧
      ∀ target, Steps p.tables e below (B.U.setTop { g with pc := g.pc + 3, stack := v.toList ++ rest }) target → Steps p.tables e below (T.setTop g) target) ∨
    (∃ (q : Addr) (vm₁ : Vm) (B : Pt), s.WarmedH vm₁ ∧ Stand p l e R s m args below meth c B.U B.locs B.cells B.slots ∧ PostX ⟨T.setVm vm₁, locs, cells, slots⟩ argsL.toArray q B ∧
      Steps p.tables e below (T.setTop g) ((B.U.setTop { g with stack := rest }).pushFrame (.throwing q))) := by
  obtain ⟨mk, hnamed⟩ := Cond.code_named hcode
  obtain ⟨methM, cM, hmethM, -, -, -, -, -, -, hsigM⟩ := Cond.code_spec hnamed hcode
  have hstatic : methM.isStatic = true := Cond.static_spec hnamed hmethM hstat
  obtain ⟨kP, hkP, -⟩ := className_of_methodNamed hnamed
  have hinitP : kP.init = .initialized := Cond.initialized_spec (findClass_of_methodNamed hnamed) hkP hinit
  obtain ⟨vm₁, X₁, hstep₁⟩ := X.invokestatic hexec hown hlink hnamed hmethM hstatic hkP hinitP hy (g := g) hg (argsL := argsL) (rest := rest) (hlen _ hsigM) hstack hdg
  rcases hK m meth c ⟨T.setVm vm₁, locs, cells, slots⟩ { g with stack := rest } (.invokestatic index) mk argsL.toArray X₁ hg hsize hdg hW (X₁.named hnamed) (hpre vm₁ X₁.warmed) with ⟨v, B, X', hpost, hsteps⟩ | ⟨q, B, X', hpost, hsteps⟩
  · exact Or.inl ⟨v, vm₁, B, X₁.warmed, X', hpost, fun target h => hstep₁ _ fun acts => by rw [doInvoke_state]; exact hsteps.trans h⟩
  · exact Or.inr ⟨q, vm₁, B, X₁.warmed, X', hpost, hstep₁ _ fun acts => by rw [doInvoke_state]; exact hsteps⟩
end Calls
theorem vx_cls {s : State} {T : State} {vm₁ : Vm} {E : String} {k : ClassId} (hW : s.WarmedH vm₁) (h : (T.setVm vm₁).vm.findClass E = some k) : s.vm.findClass E = some k := by
  have h1 : vm₁.findClass E = some k := h
  rw [hW.alike.findClass] at h1
  exact h1
/-- the method's frame g, with q thrown over it -/
def vx_W (p : Program) (l : Launch) (e : Env) (R : Room) (s : State) (m : MethodId) (args : Array Value) (below : List Frame) (meth : Method) (c : Code) (H : Heap) (locs : List Loc) (cells slots : Nat) (Q : State → Prop) (g : JFrame) (q : Addr) : Prop :=
  ∀ T : State, T.heap = H → Stand p l e R s m args below meth c T locs cells slots → ∃ t, Steps p.tables e below ((T.setTop g).pushFrame (.throwing q)) t ∧ Q t
def vx_Run (p : Program) (l : Launch) (e : Env) (R : Room) (s : State) (m : MethodId) (args : Array Value) (below : List Frame) (meth : Method) (c : Code) (H : Heap) (locs : List Loc) (cells slots mc ms : Nat) (g : JFrame) (rest : List Value) (Qa : State → Outcome → State → Prop) (XC : String → State → State → Prop) (free : Addr → Prop) : Prop :=
  ∀ T : State, T.heap = H → Stand p l e R s m args below meth c T locs cells slots →
    (∃ (v : Option Value) (st₀ t T' : State) (L : List Loc), st₀.heap = H ∧ Stand p l e R s m args below meth c T' (locs ++ L) (cells + mc) (slots + ms) ∧ (∀ q ∈ L, free q.base) ∧ T'.heap = t.heap ∧ T'.vm = t.vm ∧ Qa st₀ (.returned v) t ∧
      Goes p e below T g T' { g with pc := g.pc + 3, stack := v.toList ++ rest }) ∨
    (∃ (q : Addr) (st₀ t T' : State) (L : List Loc) (E : String) (ce : Cell), st₀.heap = H ∧ Stand p l e R s m args below meth c T' (locs ++ L) (cells + mc) (slots + ms) ∧ (∀ z ∈ L, free z.base) ∧ T'.heap = t.heap ∧ T'.vm = t.vm ∧ XC E st₀ t ∧ t.heap[q]? = some ce ∧ ce.vm = .none ∧ s.vm.findClass E = some ce.cls ∧
      Steps p.tables e below (T.setTop g) ((T'.setTop { g with stack := rest }).pushFrame (.throwing q)))
def vx_X {S : Type} (px : S → Prop) (B : String → S → State → Prop) (A : Nat → Prop) : String → State → State → Prop := fun E st t => ∃ u : S, px u ∧ B E u t ∧ va_F A st t
section Runs
variable {p : Program} {l : Launch} {e : Env} {R : Room} {s : State} {m : MethodId} {args : Array Value} {below : List Frame} {meth : Method} {c : Code} {H : Heap} {locs : List Loc} {cells slots : Nat}
variable {y : MethodName} {bytes cc : ByteArray} {maxL nL mc ms n index : Nat} {ret : Option FieldType} {ws : List Cond} {rm : Room} {Pc : Array Value → State → Prop} {Qc : Array Value → State → Outcome → State → Prop} {XC : String → State → State → Prop} {free : Addr → Prop} {Ts : List Cond} {own C : String} {b : Addr} {As rest : List Value} {g : JFrame}
theorem vx_callBack (cb : CallB R s args own index y bytes maxL ret ws rm mc ms n) (hM : vx_Met l y ws rm Pc Qc XC mc ms free) (hbl : FrameBlind Pc) : vx_Back l R p e below s args y 3 8 (PreOf R mc ms Pc) (PostOf Qc mc ms free) (vx_Post XC mc ms free) := by
  obtain ⟨hrc, hrs, hfr, hlo, hws, hcw, -, hini, -⟩ := cb
  exact vx_back (bytes := bytes) (maxL := maxL) (ret := ret) hM hbl hrc hrs hfr hlo hws hcw (fun a' U hW => word_at hW (Or.inl (by first | rfl | simp [Cond.onTables, Cond.keeps, Cond.steady])) hini)
theorem vx_runV (S : CallFix p m c cc nL s args Ts own) (hM : vx_Met l y ws rm Pc Qc XC mc ms free) (cw : CallW R s args own C index y bytes maxL ret ws rm mc ms n) (hp : PreV s H C b Pc As)
    (hg : g.method = m) (hn : As.length = n) (hsize : g.locals.size = nL) (hstack : g.stack = As.reverse ++ .ref b :: rest) (hW : 2 * g.monitorRoom + (rest.map fun v => v.category).sum ≤ 8) (hdg : decode cc g.pc = .ok (.invokevirtual index, 3)) (hf : cells + mc ≤ R.cells ∧ slots + ms ≤ R.slots) :
    vx_Run p l e R s m args below meth c H locs cells slots mc ms g rest (Qc (Value.ref b :: As).toArray) XC free := by
  have hK : vx_Back l R p e below s args y 3 8 (PreOf R mc ms Pc) (PostOf Qc mc ms free) (vx_Post XC mc ms free) := vx_callBack cw.1 hM hp.1
  obtain ⟨⟨-, -, -, -, -, -, hcode, -, hy, hlen, hl⟩, hin, hse⟩ := cw
  obtain ⟨hx, hb, hml, ho, -⟩ := S
  obtain ⟨-, ⟨cellB, hcB, hoB, hclB⟩, hPc⟩ := hp
  intro T hT X
  rcases vx_callV X hx (C := C) (bytes := bytes) (maxL := maxL) (ret := ret) ho hl hin hse hcode hy hK (by rw [hT]; exact hcB) hoB hclB hg (hsize.trans hml.symm) (argsL := As) (rest := rest) (fun sig h => hn.trans (hlen sig h)) hstack hW (by rw [hb]; exact hdg)
    (fun vm₁ hW₁ => ⟨hf.1, hf.2, hPc (T.setVm vm₁) hT hW₁⟩) with ⟨v, vm₁, ⟨U', l2, c2, s2⟩, hW₁, X', ⟨g', mk, t, L, e1, e2, hq, h1, hL, h2, h3⟩, st⟩ | ⟨q, vm₁, ⟨U', l2, c2, s2⟩, hW₁, X', ⟨g', mk, t, L, E, ce, e1, e2, hq, hce, hcv, hcl, h1, hL, h2, h3⟩, st⟩
  · dsimp only [Pt.U, Pt.locs, Pt.cells, Pt.slots] at X' e1 e2 h1 h2 h3 st
    subst h1; subst h2; subst h3
    exact Or.inl ⟨v, (T.setVm vm₁).calling g' mk (Value.ref b :: As).toArray, t, U', L, hT, X', hL, e1, e2, hq, st⟩
  · dsimp only [Pt.U, Pt.locs, Pt.cells, Pt.slots] at X' e1 e2 h1 h2 h3 st hcl
    subst h1; subst h2; subst h3
    exact Or.inr ⟨q, (T.setVm vm₁).calling g' mk (Value.ref b :: As).toArray, t, U', L, E, ce, hT, X', hL, e1, e2, hq, hce, hcv, vx_cls hW₁ hcl, st⟩
theorem vx_runS (S : CallFix p m c cc nL s args Ts own) (hM : vx_Met l y ws rm Pc Qc XC mc ms free) (cw : CallB R s args own index y bytes maxL ret ws rm mc ms n ∧ (Cond.static y).before args s = true) (hp : PreS s H Pc As)
    (hg : g.method = m) (hn : As.length = n) (hsize : g.locals.size = nL) (hstack : g.stack = As.reverse ++ rest) (hW : 2 * g.monitorRoom + (rest.map fun v => v.category).sum ≤ 8) (hdg : decode cc g.pc = .ok (.invokestatic index, 3)) (hf : cells + mc ≤ R.cells ∧ slots + ms ≤ R.slots) :
    vx_Run p l e R s m args below meth c H locs cells slots mc ms g rest (Qc As.toArray) XC free := by
  have hK : vx_Back l R p e below s args y 3 8 (PreOf R mc ms Pc) (PostOf Qc mc ms free) (vx_Post XC mc ms free) := vx_callBack cw.1 hM hp.1
  obtain ⟨⟨-, -, -, -, -, -, hcode, hini, hy, hlen, hl⟩, hstt⟩ := cw
  obtain ⟨hx, hb, hml, ho, -⟩ := S
  intro T hT X
  rcases vx_callS X hx (bytes := bytes) (maxL := maxL) (ret := ret) ho hl hstt hini hcode hy hK hg (hsize.trans hml.symm) (argsL := As) (rest := rest) (fun sig h => hn.trans (hlen sig h)) hstack hW (by rw [hb]; exact hdg)
    (fun vm₁ hW₁ => ⟨hf.1, hf.2, hp.2 (T.setVm vm₁) hT hW₁⟩) with ⟨v, vm₁, ⟨U', l2, c2, s2⟩, hW₁, X', ⟨g', mk, t, L, e1, e2, hq, h1, hL, h2, h3⟩, st⟩ | ⟨q, vm₁, ⟨U', l2, c2, s2⟩, hW₁, X', ⟨g', mk, t, L, E, ce, e1, e2, hq, hce, hcv, hcl, h1, hL, h2, h3⟩, st⟩
  · dsimp only [Pt.U, Pt.locs, Pt.cells, Pt.slots] at X' e1 e2 h1 h2 h3 st
    subst h1; subst h2; subst h3
    exact Or.inl ⟨v, (T.setVm vm₁).calling g' mk As.toArray, t, U', L, hT, X', hL, e1, e2, hq, st⟩
  · dsimp only [Pt.U, Pt.locs, Pt.cells, Pt.slots] at X' e1 e2 h1 h2 h3 st hcl
    subst h1; subst h2; subst h3
    exact Or.inr ⟨q, (T.setVm vm₁).calling g' mk As.toArray, t, U', L, E, ce, hT, X', hL, e1, e2, hq, hce, hcv, vx_cls hW₁ hcl, st⟩
end Runs
section Rows
variable {p : Program} {l : Launch} {e : Env} {R : Room} {s : State} {m : MethodId} {args : Array Value} {below : List Frame} {meth : Method} {c : Code} {H : Heap} {locs : List Loc} {cells slots : Nat} {Q : State → Prop}
variable {mc ms : Nat} {free : Addr → Prop} {A0 A1 : Nat → Prop} {H0 : Heap} {a : Array Value} {pc : Nat} {ls : Array Slot} {st0 rest : List Value}
theorem vx_keep {st₀ t T' : State} {L : List Loc} (h0 : st₀.heap = H) (e1 : T'.heap = t.heap) (hS : va_S A0 H0 H locs) (hA : ∀ q, q < H.size → A1 q → A0 q) (hf : ∀ q, free q → A0 q) (hL : ∀ q ∈ L, free q.base) (hF : va_F A1 st₀ t) :
    H.size ≤ T'.heap.size ∧ (∀ q : Nat, q < H.size → ¬ A1 q → T'.heap[q]? = H[q]?) ∧ va_S A0 H0 T'.heap (locs ++ L) := by
  obtain ⟨hz, hk⟩ := hF
  rw [h0] at hz hk
  exact ⟨by rw [e1]; exact hz, fun q h1 h2 => by rw [e1]; exact hk q h1 h2,
    ⟨Nat.le_trans hS.1 (by rw [e1]; exact hz), fun q h1 h2 => by rw [e1, hk q (Nat.lt_of_lt_of_le h1 hS.1) (fun z => h2 (hA q (Nat.lt_of_lt_of_le h1 hS.1) z))]; exact hS.2.1 q h1 h2, fun q hq => by
      rcases List.mem_append.mp hq with h | h
      · exact hS.2.2 q h
      · exact hf _ (hL q h)⟩⟩
theorem vx_calli {S SX : Type} {post : Int32 → S → Prop} {px : SX → Prop} {B : S → State → Prop} {BX : String → SX → State → Prop} {AX : Nat → Prop} (hr : vx_Run p l e R s m args below meth c H locs cells slots mc ms (F0 m pc ls st0) rest (va_Qi post B A1 a) (vx_X px BX AX) free) (hS : va_S A0 H0 H locs) (hA : ∀ q, q < H.size → A1 q → A0 q) (hf : ∀ q, free q → A0 q) (hAX : ∀ q, q < H.size → AX q → A0 q)
    (kx : ∀ (E : String) (ce : Cell) (q9 : Addr) (u : SX) (t : State) (H1 : Heap) (locs1 : List Loc), t.heap = H1 → s.vm.Alike t.vm → px u → BX E u t → H.size ≤ H1.size → (∀ q : Nat, q < H.size → ¬ AX q → H1[q]? = H[q]?) → va_S A0 H0 H1 locs1 → H1[q9]? = some ce → ce.vm = .none → s.vm.findClass E = some ce.cls → vx_W p l e R s m args below meth c H1 locs1 (cells + mc) (slots + ms) Q (F0 m pc ls rest) q9)
    (kk : ∀ (r : Int32) (u : S) (t : State) (H1 : Heap) (locs1 : List Loc), t.heap = H1 → s.vm.Alike t.vm → post r u → B u t → H.size ≤ H1.size → (∀ q : Nat, q < H.size → ¬ A1 q → H1[q]? = H[q]?) → va_S A0 H0 H1 locs1 → W p l e R s m args below meth c H1 locs1 (cells + mc) (slots + ms) Q (F0 m (pc + 3) ls (.int r :: rest))) : W p l e R s m args below meth c H locs cells slots Q (F0 m pc ls st0) := by
  intro T hT X
  rcases hr T hT X with ⟨v, st₀, t, T', L, h0, X', hL, e1, e2, ⟨⟨r, u, hv, hp, hb⟩, hF⟩, st⟩ | ⟨q, st₀, t, T', L, E, ce, h0, X', hL, e1, e2, ⟨u, hp, hb, hF⟩, hce, hcv, hcl, st⟩
  · cases hv
    obtain ⟨k1, k2, k3⟩ := vx_keep h0 e1 hS hA hf hL hF
    obtain ⟨t2, a1, b1⟩ := kk r u t T'.heap (locs ++ L) e1.symm (by rw [← e2]; exact X'.warmed.alike) hp hb k1 k2 k3 T' rfl X'
    exact ⟨t2, st t2 a1, b1⟩
  · obtain ⟨k1, k2, k3⟩ := vx_keep h0 e1 hS hAX hf hL hF
    obtain ⟨t2, a1, b1⟩ := kx E ce q u t T'.heap (locs ++ L) e1.symm (by rw [← e2]; exact X'.warmed.alike) hp hb k1 k2 k3 (by rw [e1]; exact hce) hcv hcl T' rfl X'
    exact ⟨t2, st.trans a1, b1⟩
theorem vx_calll {S SX : Type} {post : Int64 → S → Prop} {px : SX → Prop} {B : S → State → Prop} {BX : String → SX → State → Prop} {AX : Nat → Prop} (hr : vx_Run p l e R s m args below meth c H locs cells slots mc ms (F0 m pc ls st0) rest (va_Ql post B A1 a) (vx_X px BX AX) free) (hS : va_S A0 H0 H locs) (hA : ∀ q, q < H.size → A1 q → A0 q) (hf : ∀ q, free q → A0 q) (hAX : ∀ q, q < H.size → AX q → A0 q)
    (kx : ∀ (E : String) (ce : Cell) (q9 : Addr) (u : SX) (t : State) (H1 : Heap) (locs1 : List Loc), t.heap = H1 → s.vm.Alike t.vm → px u → BX E u t → H.size ≤ H1.size → (∀ q : Nat, q < H.size → ¬ AX q → H1[q]? = H[q]?) → va_S A0 H0 H1 locs1 → H1[q9]? = some ce → ce.vm = .none → s.vm.findClass E = some ce.cls → vx_W p l e R s m args below meth c H1 locs1 (cells + mc) (slots + ms) Q (F0 m pc ls rest) q9)
    (kk : ∀ (r : Int64) (u : S) (t : State) (H1 : Heap) (locs1 : List Loc), t.heap = H1 → s.vm.Alike t.vm → post r u → B u t → H.size ≤ H1.size → (∀ q : Nat, q < H.size → ¬ A1 q → H1[q]? = H[q]?) → va_S A0 H0 H1 locs1 → W p l e R s m args below meth c H1 locs1 (cells + mc) (slots + ms) Q (F0 m (pc + 3) ls (.long r :: rest))) : W p l e R s m args below meth c H locs cells slots Q (F0 m pc ls st0) := by
  intro T hT X
  rcases hr T hT X with ⟨v, st₀, t, T', L, h0, X', hL, e1, e2, ⟨⟨r, u, hv, hp, hb⟩, hF⟩, st⟩ | ⟨q, st₀, t, T', L, E, ce, h0, X', hL, e1, e2, ⟨u, hp, hb, hF⟩, hce, hcv, hcl, st⟩
  · cases hv
    obtain ⟨k1, k2, k3⟩ := vx_keep h0 e1 hS hA hf hL hF
    obtain ⟨t2, a1, b1⟩ := kk r u t T'.heap (locs ++ L) e1.symm (by rw [← e2]; exact X'.warmed.alike) hp hb k1 k2 k3 T' rfl X'
    exact ⟨t2, st t2 a1, b1⟩
  · obtain ⟨k1, k2, k3⟩ := vx_keep h0 e1 hS hAX hf hL hF
    obtain ⟨t2, a1, b1⟩ := kx E ce q u t T'.heap (locs ++ L) e1.symm (by rw [← e2]; exact X'.warmed.alike) hp hb k1 k2 k3 (by rw [e1]; exact hce) hcv hcl T' rfl X'
    exact ⟨t2, st.trans a1, b1⟩
theorem vx_callf {S SX : Type} {post : UInt32 → S → Prop} {px : SX → Prop} {B : S → State → Prop} {BX : String → SX → State → Prop} {AX : Nat → Prop} (hr : vx_Run p l e R s m args below meth c H locs cells slots mc ms (F0 m pc ls st0) rest (va_Qf post B A1 a) (vx_X px BX AX) free) (hS : va_S A0 H0 H locs) (hA : ∀ q, q < H.size → A1 q → A0 q) (hf : ∀ q, free q → A0 q) (hAX : ∀ q, q < H.size → AX q → A0 q)
    (kx : ∀ (E : String) (ce : Cell) (q9 : Addr) (u : SX) (t : State) (H1 : Heap) (locs1 : List Loc), t.heap = H1 → s.vm.Alike t.vm → px u → BX E u t → H.size ≤ H1.size → (∀ q : Nat, q < H.size → ¬ AX q → H1[q]? = H[q]?) → va_S A0 H0 H1 locs1 → H1[q9]? = some ce → ce.vm = .none → s.vm.findClass E = some ce.cls → vx_W p l e R s m args below meth c H1 locs1 (cells + mc) (slots + ms) Q (F0 m pc ls rest) q9)
    (kk : ∀ (r : UInt32) (u : S) (t : State) (H1 : Heap) (locs1 : List Loc), t.heap = H1 → s.vm.Alike t.vm → post r u → B u t → H.size ≤ H1.size → (∀ q : Nat, q < H.size → ¬ A1 q → H1[q]? = H[q]?) → va_S A0 H0 H1 locs1 → W p l e R s m args below meth c H1 locs1 (cells + mc) (slots + ms) Q (F0 m (pc + 3) ls (.float r :: rest))) : W p l e R s m args below meth c H locs cells slots Q (F0 m pc ls st0) := by
  intro T hT X
  rcases hr T hT X with ⟨v, st₀, t, T', L, h0, X', hL, e1, e2, ⟨⟨r, u, hv, hp, hb⟩, hF⟩, st⟩ | ⟨q, st₀, t, T', L, E, ce, h0, X', hL, e1, e2, ⟨u, hp, hb, hF⟩, hce, hcv, hcl, st⟩
  · cases hv
    obtain ⟨k1, k2, k3⟩ := vx_keep h0 e1 hS hA hf hL hF
    obtain ⟨t2, a1, b1⟩ := kk r u t T'.heap (locs ++ L) e1.symm (by rw [← e2]; exact X'.warmed.alike) hp hb k1 k2 k3 T' rfl X'
    exact ⟨t2, st t2 a1, b1⟩
  · obtain ⟨k1, k2, k3⟩ := vx_keep h0 e1 hS hAX hf hL hF
    obtain ⟨t2, a1, b1⟩ := kx E ce q u t T'.heap (locs ++ L) e1.symm (by rw [← e2]; exact X'.warmed.alike) hp hb k1 k2 k3 (by rw [e1]; exact hce) hcv hcl T' rfl X'
    exact ⟨t2, st.trans a1, b1⟩
theorem vx_calld {S SX : Type} {post : UInt64 → S → Prop} {px : SX → Prop} {B : S → State → Prop} {BX : String → SX → State → Prop} {AX : Nat → Prop} (hr : vx_Run p l e R s m args below meth c H locs cells slots mc ms (F0 m pc ls st0) rest (va_Qd post B A1 a) (vx_X px BX AX) free) (hS : va_S A0 H0 H locs) (hA : ∀ q, q < H.size → A1 q → A0 q) (hf : ∀ q, free q → A0 q) (hAX : ∀ q, q < H.size → AX q → A0 q)
    (kx : ∀ (E : String) (ce : Cell) (q9 : Addr) (u : SX) (t : State) (H1 : Heap) (locs1 : List Loc), t.heap = H1 → s.vm.Alike t.vm → px u → BX E u t → H.size ≤ H1.size → (∀ q : Nat, q < H.size → ¬ AX q → H1[q]? = H[q]?) → va_S A0 H0 H1 locs1 → H1[q9]? = some ce → ce.vm = .none → s.vm.findClass E = some ce.cls → vx_W p l e R s m args below meth c H1 locs1 (cells + mc) (slots + ms) Q (F0 m pc ls rest) q9)
    (kk : ∀ (r : UInt64) (u : S) (t : State) (H1 : Heap) (locs1 : List Loc), t.heap = H1 → s.vm.Alike t.vm → post r u → B u t → H.size ≤ H1.size → (∀ q : Nat, q < H.size → ¬ A1 q → H1[q]? = H[q]?) → va_S A0 H0 H1 locs1 → W p l e R s m args below meth c H1 locs1 (cells + mc) (slots + ms) Q (F0 m (pc + 3) ls (.double r :: rest))) : W p l e R s m args below meth c H locs cells slots Q (F0 m pc ls st0) := by
  intro T hT X
  rcases hr T hT X with ⟨v, st₀, t, T', L, h0, X', hL, e1, e2, ⟨⟨r, u, hv, hp, hb⟩, hF⟩, st⟩ | ⟨q, st₀, t, T', L, E, ce, h0, X', hL, e1, e2, ⟨u, hp, hb, hF⟩, hce, hcv, hcl, st⟩
  · cases hv
    obtain ⟨k1, k2, k3⟩ := vx_keep h0 e1 hS hA hf hL hF
    obtain ⟨t2, a1, b1⟩ := kk r u t T'.heap (locs ++ L) e1.symm (by rw [← e2]; exact X'.warmed.alike) hp hb k1 k2 k3 T' rfl X'
    exact ⟨t2, st t2 a1, b1⟩
  · obtain ⟨k1, k2, k3⟩ := vx_keep h0 e1 hS hAX hf hL hF
    obtain ⟨t2, a1, b1⟩ := kx E ce q u t T'.heap (locs ++ L) e1.symm (by rw [← e2]; exact X'.warmed.alike) hp hb k1 k2 k3 (by rw [e1]; exact hce) hcv hcl T' rfl X'
    exact ⟨t2, st.trans a1, b1⟩
theorem vx_callv {S SX : Type} {post : S → Prop} {px : SX → Prop} {B : S → State → Prop} {BX : String → SX → State → Prop} {AX : Nat → Prop} (hr : vx_Run p l e R s m args below meth c H locs cells slots mc ms (F0 m pc ls st0) rest (va_Qv post B A1 a) (vx_X px BX AX) free) (hS : va_S A0 H0 H locs) (hA : ∀ q, q < H.size → A1 q → A0 q) (hf : ∀ q, free q → A0 q) (hAX : ∀ q, q < H.size → AX q → A0 q)
    (kx : ∀ (E : String) (ce : Cell) (q9 : Addr) (u : SX) (t : State) (H1 : Heap) (locs1 : List Loc), t.heap = H1 → s.vm.Alike t.vm → px u → BX E u t → H.size ≤ H1.size → (∀ q : Nat, q < H.size → ¬ AX q → H1[q]? = H[q]?) → va_S A0 H0 H1 locs1 → H1[q9]? = some ce → ce.vm = .none → s.vm.findClass E = some ce.cls → vx_W p l e R s m args below meth c H1 locs1 (cells + mc) (slots + ms) Q (F0 m pc ls rest) q9)
    (kk : ∀ (u : S) (t : State) (H1 : Heap) (locs1 : List Loc), t.heap = H1 → s.vm.Alike t.vm → post u → B u t → H.size ≤ H1.size → (∀ q : Nat, q < H.size → ¬ A1 q → H1[q]? = H[q]?) → va_S A0 H0 H1 locs1 → W p l e R s m args below meth c H1 locs1 (cells + mc) (slots + ms) Q (F0 m (pc + 3) ls (rest))) : W p l e R s m args below meth c H locs cells slots Q (F0 m pc ls st0) := by
  intro T hT X
  rcases hr T hT X with ⟨v, st₀, t, T', L, h0, X', hL, e1, e2, ⟨⟨u, hv, hp, hb⟩, hF⟩, st⟩ | ⟨q, st₀, t, T', L, E, ce, h0, X', hL, e1, e2, ⟨u, hp, hb, hF⟩, hce, hcv, hcl, st⟩
  · cases hv
    obtain ⟨k1, k2, k3⟩ := vx_keep h0 e1 hS hA hf hL hF
    obtain ⟨t2, a1, b1⟩ := kk u t T'.heap (locs ++ L) e1.symm (by rw [← e2]; exact X'.warmed.alike) hp hb k1 k2 k3 T' rfl X'
    exact ⟨t2, st t2 a1, b1⟩
  · obtain ⟨k1, k2, k3⟩ := vx_keep h0 e1 hS hAX hf hL hF
    obtain ⟨t2, a1, b1⟩ := kx E ce q u t T'.heap (locs ++ L) e1.symm (by rw [← e2]; exact X'.warmed.alike) hp hb k1 k2 k3 (by rw [e1]; exact hce) hcv hcl T' rfl X'
    exact ⟨t2, st.trans a1, b1⟩
/-- caught by the row x of this method's table; the rows ahead don't take it -/
theorem vx_catch {own name : String} {E : String} {ce : Cell} {q : Addr} (hown : s.vm.findClass own = some m.cls) (pre : List ExceptionTableEntry) (x : ExceptionTableEntry) (suf : List ExceptionTableEntry) (hsplit : c.exceptionTable.toList = pre ++ x :: suf)
    (hpass : ∀ z ∈ pre, covers z pc = false ∨ (z.catchType ≠ 0 ∧ ∃ nm : String, (Cond.classLink own z.catchType nm).before args s = true ∧ va_Nc E nm s)) (hx : covers x pc = true) (h0 : x.catchType ≠ 0)
    (hlink : (Cond.classLink own x.catchType name).before args s = true) (hcast : (Cond.castable E name).before args s = true) (hcell : H[q]? = some ce) (hv : ce.vm = .none) (hcl : s.vm.findClass E = some ce.cls)
    (kk : W p l e R s m args below meth c H locs cells slots Q (F0 m x.handlerPc ls [.ref q])) : vx_W p l e R s m args below meth c H locs cells slots Q (F0 m pc ls rest) q := by
  intro T hT X
  have hpl : e.platform.magicAccessors = ({} : Platform).magicAccessors := by rw [X.admits.platform]
  obtain ⟨c3, c4, hc3, hc4, hasg⟩ := Cond.castable_spec hcast
  cases Option.some.inj (hc3.symm.trans hcl)
  obtain ⟨c5, hc5, hcl5⟩ := Cond.classLink_spec hown hlink e.platform hpl
  cases Option.some.inj (hc4.symm.trans hc5)
  obtain ⟨vm', X', st⟩ := X.thenCaughtThrough q (g := F0 m pc ls rest) rfl (Steps.refl _) (by rw [hT]; exact hcell) (by rw [hv]; rfl) (by obtain ⟨k9, h9, -⟩ := Vm.findClass_spec hcl; exact ⟨k9, h9⟩) pre x suf hsplit
    (fun z hz => by
      rcases hpass z hz with h | ⟨hz0, nm, hl1, hn1⟩
      · exact Or.inl h
      · obtain ⟨c6, hc6, hcl6⟩ := Cond.classLink_spec hown hl1 e.platform hpl
        obtain ⟨a8, b8, h1, h2, h3⟩ := hn1
        cases Option.some.inj (h1.symm.trans hcl)
        cases Option.some.inj (h2.symm.trans hc6)
        exact Or.inr ⟨hz0, _, hcl6, h3⟩) hx (Or.inr ⟨h0, c4, hcl5, hasg⟩)
  obtain ⟨t, a1, b1⟩ := kk (T.setVm vm') hT X'
  exact ⟨t, st.trans a1, b1⟩
end Rows
section Ends
variable {p : Program} {l : Launch} {e : Env} {R : Room} {s : State} {m : MethodId} {args : Array Value} {below : List Frame} {meth : Method} {c : Code} {H : Heap} {locs : List Loc} {cells slots : Nat} {Q : State → Prop}
variable {mc ms : Nat} {free : Addr → Prop} {A0 A1 : Nat → Prop} {H0 : Heap} {a : Array Value} {ls : Array Slot} {st0 rest : List Value}
variable {Qc : Array Value → State → Outcome → State → Prop} {XC : String → State → State → Prop}
/-- what a body that may throw owes at its end -/
def vx_MQ (below : List Frame) (Qc : Array Value → State → Outcome → State → Prop) (XC : String → State → State → Prop) (a : Array Value) (s : State) (mc ms : Nat) (free : Addr → Prop) : State → Prop := fun t =>
  ∃ o, t.status = .running ∧ Ended t below o ∧ vx_Q Qc XC mc ms free a s o t
theorem vx_ret {g : JFrame} {mc ms : Nat} (k : W p l e R s m args below meth c H locs cells slots (MQ below Qc args s mc ms free) g) : W p l e R s m args below meth c H locs cells slots (vx_MQ below Qc XC args s mc ms free) g := by
  intro T hT X
  obtain ⟨t, a1, o, b1, b2, b3, b4⟩ := k T hT X
  exact ⟨t, a1, o, b1, b2, Or.inl ⟨b3, b4⟩⟩
/-- not caught here: it goes on to the caller -/
theorem vx_widen {g : JFrame} {q : Addr} {k n : Nat} (h1 : cells ≤ k) (h2 : slots ≤ n) (kk : vx_W p l e R s m args below meth c H locs k n Q g q) : vx_W p l e R s m args below meth c H locs cells slots Q g q := fun T hT X => kk T hT (stand_widen X h1 h2)
theorem vx_out {pc : Nat} {E : String} {ce : Cell} {q : Addr} {mc ms : Nat} (hout : ∀ x ∈ c.exceptionTable.toList, covers x pc = false) (hlocks : meth.locks = false) (hcell : H[q]? = some ce) (hv : ce.vm = .none) (hcl : s.vm.findClass E = some ce.cls)
    (hx : ∀ t : State, t.heap = H → s.vm.Alike t.vm → XC E s t) (hf : ∀ z ∈ locs, free z.base) (hc : cells ≤ mc) (hs : slots ≤ ms) :
    vx_W p l e R s m args below meth c H locs cells slots (vx_MQ below Qc XC args s mc ms free) (F0 m pc ls rest) q := by
  intro T hT X
  obtain ⟨st1, hrun, hend, hW, hsm⟩ := X.leaveThrown q (g := F0 m pc ls rest) rfl rfl rfl hout hlocks
  have hcell9 : (T.setFrames (.throwing q :: below)).heap[q]? = some ce := by
    show T.heap[q]? = some ce
    rw [hT]; exact hcell
  exact ⟨_, st1, .threw q, hrun, hend, Or.inr ⟨q, rfl, E, ce, locs, hx _ hT hW.alike, hcell9, hv, hcl, hW, hsm.mono hc hs, hf⟩⟩
theorem vx_frame {U : State} {k n : Nat} (h : s.sameButNew ({ U with vm := s.vm } : State) locs k n) : s.heap.size ≤ U.heap.size ∧ ∀ q : Nat, q < s.heap.size → (∀ z ∈ locs, z.base ≠ q) → U.heap[q]? = s.heap[q]? := by
  obtain ⟨-, h2, -, -, -, h6⟩ := h
  refine ⟨h2, fun q hq hz => ?_⟩
  obtain ⟨c9, e1, e2, e3, e4⟩ := h6 q _ (Array.getElem?_eq_getElem hq)
  have hs : c9.slots = (s.heap[q]).slots := Array.ext_getElem? fun i => e4 i fun hm => hz _ hm rfl
  have h9 : c9 = s.heap[q] := by
    rw [hs] at e2
    exact e2
  have e5 : U.heap[q]? = some c9 := e1
  rw [e5, h9, Array.getElem?_eq_getElem hq]
/-- the words of a throw but the four that speak of the heap -/
def vx_no (w : Cond) : Bool := decide (w ≠ .isRef (.static Bundle.tN "UNASSIGNED_STACK" Bundle.steD)) && decide (w ≠ .isRef (.static Bundle.tN "SUPPRESSED_SENTINEL" Bundle.listD)) && decide (w ≠ .laysStatic Bundle.tN "UNASSIGNED_STACK" Bundle.steD) && decide (w ≠ .laysStatic Bundle.tN "SUPPRESSED_SENTINEL" Bundle.listD)
def vx_at0 (own : String) (ic : Nat) (X : String) (names : List String) : List Cond := (Bundle.ownAtoms0 own ic X names).filter vx_no
def vx_atS (own : String) (ic : Nat) (X : String) (names : List String) : List Cond := (Bundle.ownAtoms own ic X names).filter vx_no
/-- a word that the tables alone decide, or a good one -/
def vx_ot (w : Cond) : Bool := w.onTables || goodWord w
theorem vx_ot_at {args a' : Array Value} {s U : State} {w : Cond} (hW : s.WarmedH U.vm) (hvm : s.vm = U.vm) (hg : vx_ot w = true) (h : w.before args s = true) : w.before a' U = true := by
  simp only [vx_ot, Bool.or_eq_true] at hg
  rcases hg with hg | hg
  · exact va_tabs hg hvm h
  · exact word_at hW (good_of_word hg) h
/-- a list's words: the good ones out of the method's own list, the others by premises of their own -/
theorem vx_hat {args : Array Value} {s : State} {L B : List Cond} (h1 : ∀ w ∈ L.filter goodWord, w.before args s = true) (h2 : ∀ w ∈ L.filter (fun w => !goodWord w), w ∈ B) (h3 : ∀ w ∈ B, w.before args s = true) : ∀ w ∈ L, w.before args s = true := by
  intro w hw
  by_cases g : goodWord w = true
  · exact h1 w (List.mem_filter.mpr ⟨hw, g⟩)
  · refine h3 w (h2 w (List.mem_filter.mpr ⟨hw, ?_⟩))
    show (!goodWord w) = true
    cases hgw : goodWord w
    · rfl
    · exact absurd hgw g
theorem vx_c {args : Array Value} {s : State} {w : Cond} {B : List Cond} (h : w.before args s = true) (t : ∀ w ∈ B, w.before args s = true) : ∀ w' ∈ w :: B, w'.before args s = true := fun w' h' => (List.mem_cons.mp h').elim (fun e => by rw [e]; exact h) (t w')
theorem vx_n {args : Array Value} {s : State} : ∀ w ∈ ([] : List Cond), w.before args s = true := fun _ h => nomatch h
theorem vx_own {args : Array Value} {s : State} {L : List Cond} (h1 : ∀ w ∈ L.filter vx_no, w.before args s = true)
    (hU : (Cond.isRef (.static Bundle.tN "UNASSIGNED_STACK" Bundle.steD)).before args s = true) (hN : (Cond.isRef (.static Bundle.tN "SUPPRESSED_SENTINEL" Bundle.listD)).before args s = true)
    (lU : (Cond.laysStatic Bundle.tN "UNASSIGNED_STACK" Bundle.steD).before args s = true) (lN : (Cond.laysStatic Bundle.tN "SUPPRESSED_SENTINEL" Bundle.listD).before args s = true) : ∀ w ∈ L, w.before args s = true := by
  intro w hw
  by_cases e1 : w = .isRef (.static Bundle.tN "UNASSIGNED_STACK" Bundle.steD)
  · rw [e1]; exact hU
  · by_cases e2 : w = .isRef (.static Bundle.tN "SUPPRESSED_SENTINEL" Bundle.listD)
    · rw [e2]; exact hN
    · by_cases e3 : w = .laysStatic Bundle.tN "UNASSIGNED_STACK" Bundle.steD
      · rw [e3]; exact lU
      · by_cases e4 : w = .laysStatic Bundle.tN "SUPPRESSED_SENTINEL" Bundle.listD
        · rw [e4]; exact lN
        · exact h1 w (List.mem_filter.mpr ⟨hw, by unfold vx_no; rw [decide_eq_true e1, decide_eq_true e2, decide_eq_true e3, decide_eq_true e4]; rfl⟩)
/-- where a static field lies, its class's statics cell in H -/
def vx_L (C n d : String) (A : Nat → Prop) (U : State) (H : Heap) : Prop := ∃ (c : ClassId) (k : Class) (i : Nat) (f : Field) (a : Nat) (cell : Cell), U.vm.findClass C = some c ∧ U.fieldFound? C n d = some (c, k, i, f) ∧ f.isStatic = true ∧ k.statics = some a ∧ H[a]? = some cell ∧ cell.vm.isStatics = true ∧ cell.cls = c ∧ f.slot < cell.slots.size ∧ k.staticTypes[f.slot]? = some f.type ∧ ¬ A a
theorem vx_L.moved {C n d : String} {A : Nat → Prop} {u U : State} {H : Heap} (hvm : u.vm.Alike U.vm) (h : vx_L C n d A u H) : vx_L C n d A U H := by
  obtain ⟨c, k, i, f, a, cell, h1, h2, h3, h4, h5, h6, h7, h8, h9, h10⟩ := h
  obtain ⟨k', hi', he⟩ := State.fieldFound?_setVm hvm h2
  exact ⟨c, k', i, f, a, cell, by rw [hvm.findClass]; exact h1, hi', h3, by rw [he]; exact h4, h5, h6, h7, h8, by rw [he]; exact h9, h10⟩
theorem vx_L.kept {C n d : String} {A : Nat → Prop} {U : State} {H H1 : Heap} (h : vx_L C n d A U H) (hq : ∀ a : Nat, a < H.size → ¬ A a → H1[a]? = H[a]?) : vx_L C n d A U H1 := by
  obtain ⟨c, k, i, f, a, cell, h1, h2, h3, h4, h5, h6, h7, h8, h9, h10⟩ := h
  exact ⟨c, k, i, f, a, cell, h1, h2, h3, h4, by rw [hq a (Array.getElem?_eq_some_iff.mp h5).1 h10]; exact h5, h6, h7, h8, h9, h10⟩
theorem vx_L.narrow {C n d : String} {A B : Nat → Prop} {U : State} {H : Heap} (h : vx_L C n d A U H) (hAB : ∀ q, B q → A q) : vx_L C n d B U H := by
  obtain ⟨c, k, i, f, a, cell, h1, h2, h3, h4, h5, h6, h7, h8, h9, h10⟩ := h
  exact ⟨c, k, i, f, a, cell, h1, h2, h3, h4, h5, h6, h7, h8, h9, fun z => h10 (hAB _ z)⟩
theorem vx_L.word {C n d : String} {A : Nat → Prop} {s : State} {args : Array Value} (h : vx_L C n d A s s.heap) : (Cond.laysStatic C n d).before args s = true := by
  obtain ⟨c, k, i, f, a, cell, h1, h2, h3, h4, h5, h6, h7, h8, h9, -⟩ := h
  show (Cond.laysStatic C n d).holds args s none s [] = true
  exact Cond.laysStatic_of h1 h2 h3 h4 h5 h6 h7 h8 h9
/-- .. and what it holds: null or some reference -/
def vx_Zq (C n d : String) (A : Nat → Prop) (U : State) (H : Heap) : Prop := va_Zq C n d A U H ∧ vx_L C n d A U H
theorem vx_Zq.moved {C n d : String} {A : Nat → Prop} {u U : State} {H : Heap} (hvm : u.vm.Alike U.vm) (h : vx_Zq C n d A u H) : vx_Zq C n d A U H := ⟨va_Zq.moved hvm h.1, vx_L.moved hvm h.2⟩
theorem vx_Zq.kept {C n d : String} {A : Nat → Prop} {U : State} {H H1 : Heap} (h : vx_Zq C n d A U H) (hq : ∀ a : Nat, a < H.size → ¬ A a → H1[a]? = H[a]?) : vx_Zq C n d A U H1 := ⟨va_Zq.kept h.1 hq, vx_L.kept h.2 hq⟩
theorem vx_Zq.narrow {C n d : String} {A B : Nat → Prop} {U : State} {H : Heap} (h : vx_Zq C n d A U H) (hAB : ∀ q, B q → A q) : vx_Zq C n d B U H := ⟨va_Zq.narrow h.1 hAB, vx_L.narrow h.2 hAB⟩
theorem vx_Zqof {args : Array Value} {s : State} {C n d : String} {A : Nat → Prop} (hl : (Cond.laysStatic C n d).before args s = true) (hini : (Cond.initialized C).before args s = true) (h : (Cond.isRef (.static C n d)).before args s = true) (hA : ∀ a : Nat, a < s.heap.size → ¬ A a) : vx_Zq C n d A s s.heap := by
  refine ⟨va_Zqof hl hini h hA, ?_⟩
  obtain ⟨c, k, i, f, a, cell, h1, h2, h3, h4, h5, h6, h7, h8, h9⟩ := Cond.laysStatic_spec hl
  exact ⟨c, k, i, f, a, cell, h1, h2, h3, h4, h5, h6, h7, h8, h9, hA a (Array.getElem?_eq_some_iff.mp h5).1⟩
theorem vx_isRef {C n d : String} {v : Value} {A : Nat → Prop} {s : State} {args : Array Value} (h : va_Z C n d v A s s.heap) (hv : v.isRef = true) : (Cond.isRef (.static C n d)).before args s = true := by
  obtain ⟨cf, kf, fi, f, a, cell, h1, h2, h3, h4, h5, h6, h7, -⟩ := h
  have he : (Term.static C n d).eval args s none [] s = some v := by
    simp [Term.eval, State.fieldNamed?, h1, h2, h4, h5, h6, h7]
  simp only [Cond.before, Cond.holds, Cond.value, he]
  cases v <;> simp_all [Value.isRef]
theorem vx_isRefq {C n d : String} {A : Nat → Prop} {s : State} {args : Array Value} (h : va_Zq C n d A s s.heap) : (Cond.isRef (.static C n d)).before args s = true := by
  rcases h with h | ⟨t, h⟩
  · exact vx_isRef h rfl
  · exact vx_isRef h rfl
/-- the same frame, seen from here: as if the method were called anew in this heap -/
theorem vx_rebase {T : State} (X : Stand p l e R s m args below meth c T locs cells slots) {R' : Room} (hf : R'.frames ≤ R.frames) (hl : R'.locals ≤ R.locals) (hc : cells + R'.cells ≤ R.cells) (hs : slots + R'.slots ≤ R.slots) :
    Stand p l e R' ((T.setVm s.vm).setFrames (.invoking m args :: below)) m args below meth c T [] 0 0 := by
  have htop : (T.setVm s.vm).topJava?.isSome := X.here.top
  have hF : ((T.setVm s.vm).setFrames (.invoking m args :: below)).frames = .invoking m args :: below := State.frames_setFrames _ (State.cur_lt_of_top htop)
  obtain ⟨g₀, hg0⟩ := Option.isSome_iff_exists.mp htop
  obtain ⟨r, hr⟩ := State.topJava?_eq_some.mp hg0
  have hl9 : e.platform.stackLimits (T.setVm s.vm).me = e.platform.stackLimits s.me := X.limits
  have hb9 : (T.setVm s.vm).me.stackBytes = s.me.stackBytes := X.bytes
  refine ⟨X.admits, X.cas, X.clock, hF, ?_, X.hears, X.method, X.code, X.here, X.tail, X.warmed, ?_, ?_, ?_⟩
  · have h := X.room
    have hU : ((T.setVm s.vm).setFrames (.invoking m args :: below)).localsInUse = s.localsInUse := by
      rw [State.localsInUse_invoking hF (meth := meth) (c := c) X.method X.code, State.localsInUse_invoking X.frames X.method X.code]
    simp only [State.hasRoom, Bool.and_eq_true, decide_eq_true_eq] at h ⊢
    obtain ⟨⟨⟨⟨h1, h2, h3, h4, h5, h6⟩, h7⟩, h8⟩, h9⟩ := h
    rw [X.frames, List.length_cons] at h2 h3
    have q1 := X.heapSize
    have q2 := X.used
    simp only [hF, hU, List.length_cons, State.stackLimits_setFrames, State.stackBytes_setFrames, hl9, hb9]
    refine ⟨⟨⟨⟨by omega, by omega, by omega, by omega, by omega, h6⟩, ?_⟩, ?_⟩, X.book⟩
    · show T.heap.size + R'.cells ≤ e.platform.maxCells
      omega
    · show T.slotsUsed + R'.slots ≤ e.platform.maxSlots
      omega
  · rw [State.stackLimits_setFrames]; rfl
  · rw [State.stackBytes_setFrames]; rfl
  · refine ⟨?_, Nat.le_refl _, Nat.le_refl _, ?_, ?_, fun a c9 h9 => ⟨c9, h9, rfl, rfl, fun _ _ => rfl⟩⟩
    · obtain ⟨t, ht, -⟩ := State.frames_cons hr
      show T.setVm s.vm = { ((T.setVm s.vm).setFrames (.invoking m args :: below)).setFrames (T.setVm s.vm).frames with heap := T.heap, slotsUsed := T.slotsUsed }
      rw [State.setFrames_setFrames, State.setFrames_self ht]
      rfl
    · show T.slotsUsed = T.slotsUsed + ((T.heap.toList.drop T.heap.size).map (·.slots.size)).sum
      rw [List.drop_eq_nil_of_le (Nat.le_of_eq Array.length_toList)]
      rfl
    · show ((T.heap.toList.drop T.heap.size).map (·.slots.size)).sum ≤ 0
      rw [List.drop_eq_nil_of_le (Nat.le_of_eq Array.length_toList)]
      exact Nat.le_refl _
/-- 'throw new E()': new; dup; invokespecial; athrow -/
theorem vx_throw0 {cc : ByteArray} {pc : Nat} (hexec : p.tables.exec = Jvm.exec) (hb : c.code = cc) (hl : l.stackTraces = false) {own cls : String} {names : List String} {ik ic mc ms : Nat} {A : Nat → Prop}
    (hown : s.vm.findClass own = some m.cls) (hcls : Bundle.fit cls = true) (hnames : ∀ n ∈ names, Bundle.fit n = true)
    (hk : (Cond.classLink own ik cls).before args s = true) (hini : (Cond.initialized cls).before args s = true) (hat : ∀ w ∈ vx_at0 own ic cls names, w.before args s = true)
    (hgood : ∀ w ∈ Cond.classLink own ik cls :: Cond.initialized cls :: vx_at0 own ic cls names, vx_ot w = true)
    (hU : vx_Zq Bundle.tN "UNASSIGNED_STACK" Bundle.steD A s s.heap) (hN : vx_Zq Bundle.tN "SUPPRESSED_SENTINEL" Bundle.listD A s s.heap) (hS : va_S A s.heap H locs) (hsize : ls.size = c.maxLocals)
    (d0 : decode cc pc = .ok (.new ik, 3)) (d3 : decode cc (pc + 3) = .ok (.dup, 1)) (d4 : decode cc (pc + 4) = .ok (.invokespecial ic, 3)) (d7 : decode cc (pc + 7) = .ok (.athrow, 1))
    (hout : ∀ x ∈ c.exceptionTable.toList, covers x (pc + 7) = false)
    (hRframes : names.length + 3 < R.frames) (hRlocals : (rest.map fun v => v.category).sum + (13 * (names.length + 1) + 42) ≤ R.locals) (hRcells : cells + 1 ≤ R.cells) (hRslots : slots + 6 ≤ R.slots) (hlocks : meth.locks = false)
    (hx : ∀ t : State, s.vm.Alike t.vm → H.size ≤ t.heap.size → (∀ q : Nat, q < H.size → t.heap[q]? = H[q]?) → XC cls s t)
    (hf : ∀ z ∈ locs, free z.base) (hc : cells + 1 ≤ mc) (hs : slots + 6 ≤ ms) :
    W p l e R s m args below meth c H locs cells slots (vx_MQ below Qc XC args s mc ms free) (F0 m pc ls rest) := by
  intro T hT X
  have htr : e.platform.stackTraces = false := (show e.platform.stackTraces = l.stackTraces by rw [X.admits.platform]).trans hl
  have Y := vx_rebase X (R' := { frames := R.frames, locals := R.locals, cells := 1, slots := 6 }) (Nat.le_refl _) (Nat.le_refl _) hRcells hRslots
  obtain ⟨s', hA⟩ : ∃ z, z = (T.setVm s.vm).setFrames (.invoking m args :: below) := ⟨_, rfl⟩
  rw [← hA] at Y
  have hvm : s'.vm = s.vm := by rw [hA]; rfl
  have hhp : s'.heap = H := by rw [hA]; exact hT
  have hW0 : s.WarmedH s'.vm := by rw [hvm]; exact State.WarmedH.refl s
  have hat' : ∀ w ∈ vx_at0 own ic cls names, w.before args s' = true := fun w hw => vx_ot_at hW0 hvm.symm (hgood w (List.mem_cons_of_mem _ (List.mem_cons_of_mem _ hw))) (hat w hw)
  have hk' : (Cond.classLink own ik cls).before args s' = true := vx_ot_at hW0 hvm.symm (hgood _ List.mem_cons_self) hk
  have hini' : (Cond.initialized cls).before args s' = true := vx_ot_at hW0 hvm.symm (hgood _ (List.mem_cons_of_mem _ List.mem_cons_self)) hini
  have hU' : vx_Zq Bundle.tN "UNASSIGNED_STACK" Bundle.steD A s' s'.heap := by rw [hhp]; exact vx_Zq.moved hW0.alike (hU.kept hS.2.1)
  have hN' : vx_Zq Bundle.tN "SUPPRESSED_SENTINEL" Bundle.listD A s' s'.heap := by rw [hhp]; exact vx_Zq.moved hW0.alike (hN.kept hS.2.1)
  have h : ∀ w ∈ Bundle.ownAtoms0 own ic cls names, w.before args s' = true := vx_own hat' (vx_isRefq hU'.1) (vx_isRefq hN'.1) hU'.2.word hN'.2.word
  have hown' : s'.vm.findClass own = some m.cls := by rw [hvm]; exact hown
  have hins : (Cond.instantiable cls 6).before args s' = true := h _ (by simp [Bundle.ownAtoms0])
  obtain ⟨vm₁, cX, kX, hfX, hkX, -, -, X₁, st1⟩ := Y.newCold hexec (own := own) (C := cls) (index := ik) (n := 6) hown' hk' hins hini'
    (g := F0 m pc ls rest) rfl (by rw [hb]; exact d0) (Nat.le_refl _) (Nat.le_refl _)
  generalize hT1 : (T.setVm vm₁).pushCell { cls := cX, slots := kX.instanceTypes.map defaultValue, vm := .none } = T1 at X₁ st1
  have hcat : (Value.ref T.heap.size).category = 1 := rfl
  have hcellA : T1.heap[T.heap.size]? = some (freshCell cX kX) := by rw [← hT1]; exact State.heap_pushCell_size _ _
  have d3' : decode c.code (pc + 3) = .ok (.dup, 1) := by rw [hb]; exact d3
  obtain ⟨U, hsteps, hrun, hend, hW, hsame, ce, hce, hO⟩ := X₁.ctorThrow0 hexec htr (own := own) (cls := cls) (names := names) (ic := ic) hown' hcls hnames h (fun x hx => nomatch hx) hfX hkX hcellA (by rw [hhp, hT]; exact Nat.le_refl _)
    (g := { method := m, pc := pc + 4, locals := ls, stack := .ref T.heap.size :: .ref T.heap.size :: rest, locked := none }) rfl hsize rfl rfl (rest := rest) rfl
    (by rw [hb]; exact d4) (by rw [hb]; exact d7) hout hRframes (by simp only [List.map_cons, List.sum_cons, hcat]; omega) hlocks
  obtain ⟨f1, f2⟩ := vx_frame hsame
  rw [hhp] at f1 f2
  have hWs : s.WarmedH U.vm := State.WarmedH.trans hW0 hW
  have hcl : s.vm.findClass cls = some ce.cls := by
    have h9 := hO.cls
    rw [hvm] at h9
    exact h9
  have hall : s.sameButNew ({ U with vm := s.vm } : State) locs mc ms := by
    subst hA
    obtain ⟨e1, e2⟩ := hsame
    rw [State.setFrames_setFrames] at e1
    have h2 : (T.setVm s.vm).sameButNew ({ U with vm := s.vm } : State) [] (0 + 1) (0 + 6) := ⟨e1, e2⟩
    have h3 := X.same.trans h2
    rw [List.append_nil] at h3
    exact h3.mono hc hs
  refine ⟨U, ?_, .threw T.heap.size, hrun, hend, Or.inr ⟨T.heap.size, rfl, cls, ce, locs, hx U hWs.alike f1 (fun q hq => f2 q hq (fun z hz => nomatch hz)), hce, hO.vm, hcl, hWs, hall, hf⟩⟩
  refine st1 _ ?_
  show Steps p.tables e below (T1.setTop { method := m, pc := pc + 3, locals := ls, stack := .ref T.heap.size :: rest, locked := none }) _
  jvm_step X₁.here [X₁.here.top, hexec, d3', Value.category]
  exact hsteps
/-- 'throw new E("text")': new; dup; ldc; invokespecial; athrow -/
theorem vx_throwS {cc : ByteArray} {pc : Nat} (hexec : p.tables.exec = Jvm.exec) (hb : c.code = cc) (hl : l.stackTraces = false) {own cls text : String} {names : List String} {ik is ic mc ms sa : Nat} {A : Nat → Prop}
    (hown : s.vm.findClass own = some m.cls) (hcls : Bundle.fit cls = true) (hnames : ∀ n ∈ names, Bundle.fit n = true)
    (hk : (Cond.classLink own ik cls).before args s = true) (hini : (Cond.initialized cls).before args s = true) (hstr : vk_R own is text sa s) (hat : ∀ w ∈ vx_atS own ic cls names, w.before args s = true)
    (hgood : ∀ w ∈ Cond.classLink own ik cls :: Cond.initialized cls :: vx_atS own ic cls names, vx_ot w = true)
    (hU : vx_Zq Bundle.tN "UNASSIGNED_STACK" Bundle.steD A s s.heap) (hN : vx_Zq Bundle.tN "SUPPRESSED_SENTINEL" Bundle.listD A s s.heap) (hS : va_S A s.heap H locs) (hsize : ls.size = c.maxLocals)
    (d0 : decode cc pc = .ok (.new ik, 3)) (d3 : decode cc (pc + 3) = .ok (.dup, 1)) (d4 : decode cc (pc + 4) = .ok (.ldc is, 2)) (d6 : decode cc (pc + 6) = .ok (.invokespecial ic, 3)) (d9 : decode cc (pc + 9) = .ok (.athrow, 1))
    (hout : ∀ x ∈ c.exceptionTable.toList, covers x (pc + 9) = false)
    (hRframes : names.length + 3 < R.frames) (hRlocals : (rest.map fun v => v.category).sum + (13 * (names.length + 1) + 43) ≤ R.locals) (hRcells : cells + 1 ≤ R.cells) (hRslots : slots + 6 ≤ R.slots) (hlocks : meth.locks = false)
    (hx : ∀ t : State, s.vm.Alike t.vm → H.size ≤ t.heap.size → (∀ q : Nat, q < H.size → t.heap[q]? = H[q]?) → XC cls s t)
    (hf : ∀ z ∈ locs, free z.base) (hc : cells + 1 ≤ mc) (hs : slots + 6 ≤ ms) :
    W p l e R s m args below meth c H locs cells slots (vx_MQ below Qc XC args s mc ms free) (F0 m pc ls rest) := by
  intro T hT X
  have htr : e.platform.stackTraces = false := (show e.platform.stackTraces = l.stackTraces by rw [X.admits.platform]).trans hl
  have Y := vx_rebase X (R' := { frames := R.frames, locals := R.locals, cells := 1, slots := 6 }) (Nat.le_refl _) (Nat.le_refl _) hRcells hRslots
  obtain ⟨s', hA⟩ : ∃ z, z = (T.setVm s.vm).setFrames (.invoking m args :: below) := ⟨_, rfl⟩
  rw [← hA] at Y
  have hvm : s'.vm = s.vm := by rw [hA]; rfl
  have hhp : s'.heap = H := by rw [hA]; exact hT
  have hW0 : s.WarmedH s'.vm := by rw [hvm]; exact State.WarmedH.refl s
  have hat' : ∀ w ∈ vx_atS own ic cls names, w.before args s' = true := fun w hw => vx_ot_at hW0 hvm.symm (hgood w (List.mem_cons_of_mem _ (List.mem_cons_of_mem _ hw))) (hat w hw)
  have hk' : (Cond.classLink own ik cls).before args s' = true := vx_ot_at hW0 hvm.symm (hgood _ List.mem_cons_self) hk
  have hini' : (Cond.initialized cls).before args s' = true := vx_ot_at hW0 hvm.symm (hgood _ (List.mem_cons_of_mem _ List.mem_cons_self)) hini
  have hU' : vx_Zq Bundle.tN "UNASSIGNED_STACK" Bundle.steD A s' s'.heap := by rw [hhp]; exact vx_Zq.moved hW0.alike (hU.kept hS.2.1)
  have hN' : vx_Zq Bundle.tN "SUPPRESSED_SENTINEL" Bundle.listD A s' s'.heap := by rw [hhp]; exact vx_Zq.moved hW0.alike (hN.kept hS.2.1)
  have h : ∀ w ∈ Bundle.ownAtoms own ic cls names, w.before args s' = true := vx_own hat' (vx_isRefq hU'.1) (vx_isRefq hN'.1) hU'.2.word hN'.2.word
  have hown' : s'.vm.findClass own = some m.cls := by rw [hvm]; exact hown
  have hins : (Cond.instantiable cls 6).before args s' = true := h _ (by simp [Bundle.ownAtoms])
  obtain ⟨vm₁, cX, kX, hfX, hkX, -, -, X₁, st1⟩ := Y.newCold hexec (own := own) (C := cls) (index := ik) (n := 6) hown' hk' hins hini'
    (g := F0 m pc ls rest) rfl (by rw [hb]; exact d0) (Nat.le_refl _) (Nat.le_refl _)
  generalize hT1 : (T.setVm vm₁).pushCell { cls := cX, slots := kX.instanceTypes.map defaultValue, vm := .none } = T1 at X₁ st1
  have hcat : (Value.ref T.heap.size).category = 1 := rfl
  have hcellA : T1.heap[T.heap.size]? = some (freshCell cX kX) := by rw [← hT1]; exact State.heap_pushCell_size _ _
  have d3' : decode c.code (pc + 3) = .ok (.dup, 1) := by rw [hb]; exact d3
  have d4' : decode c.code (pc + 4) = .ok (.ldc is, 2) := by rw [hb]; exact d4
  have hstr' : vk_R own is text sa s' := vk_R.warm hW0 hstr
  obtain ⟨U, hsteps, hrun, hend, hW, hsame, ce, hce, hO⟩ := X₁.ctorThrowS hexec htr (own := own) (cls := cls) (names := names) (ic := ic) hown' hcls hnames h (fun x hx => nomatch hx) hfX hkX hcellA (by rw [hhp, hT]; exact Nat.le_refl _) (msg := .ref sa) rfl
    (g := { method := m, pc := pc + 6, locals := ls, stack := .ref sa :: .ref T.heap.size :: .ref T.heap.size :: rest, locked := none }) rfl hsize rfl rfl (rest := rest) rfl
    (by rw [hb]; exact d6) (by rw [hb]; exact d9) hout hRframes (by simp only [List.map_cons, List.sum_cons, hcat]; omega) hlocks
  obtain ⟨f1, f2⟩ := vx_frame hsame
  rw [hhp] at f1 f2
  have hWs : s.WarmedH U.vm := State.WarmedH.trans hW0 hW
  have hcl : s.vm.findClass cls = some ce.cls := by
    have h9 := hO.cls
    rw [hvm] at h9
    exact h9
  have hall : s.sameButNew ({ U with vm := s.vm } : State) locs mc ms := by
    subst hA
    obtain ⟨e1, e2⟩ := hsame
    rw [State.setFrames_setFrames] at e1
    have h2 : (T.setVm s.vm).sameButNew ({ U with vm := s.vm } : State) [] (0 + 1) (0 + 6) := ⟨e1, e2⟩
    have h3 := X.same.trans h2
    rw [List.append_nil] at h3
    exact h3.mono hc hs
  refine ⟨U, ?_, .threw T.heap.size, hrun, hend, Or.inr ⟨T.heap.size, rfl, cls, ce, locs, hx U hWs.alike f1 (fun q hq => f2 q hq (fun z hz => nomatch hz)), hce, hO.vm, hcl, hWs, hall, hf⟩⟩
  refine st1 _ ?_
  show Steps p.tables e below (T1.setTop { method := m, pc := pc + 3, locals := ls, stack := .ref T.heap.size :: rest, locked := none }) _
  jvm_step X₁.here [X₁.here.top, hexec, d3', Value.category]
  exact X₁.ldcString hexec (own := own) (text := text) (index := is) (a := sa) hown' hstr'.1 hstr'.2
    (g := { method := m, pc := pc + 4, locals := ls, stack := .ref T.heap.size :: .ref T.heap.size :: rest, locked := none }) rfl d4' _ hsteps
/-- 'throw new E("text")', the text by a wide index -/
theorem vx_throwSW {cc : ByteArray} {pc : Nat} (hexec : p.tables.exec = Jvm.exec) (hb : c.code = cc) (hl : l.stackTraces = false) {own cls text : String} {names : List String} {ik is ic mc ms sa : Nat} {A : Nat → Prop}
    (hown : s.vm.findClass own = some m.cls) (hcls : Bundle.fit cls = true) (hnames : ∀ n ∈ names, Bundle.fit n = true)
    (hk : (Cond.classLink own ik cls).before args s = true) (hini : (Cond.initialized cls).before args s = true) (hstr : vk_R own is text sa s) (hat : ∀ w ∈ vx_atS own ic cls names, w.before args s = true)
    (hgood : ∀ w ∈ Cond.classLink own ik cls :: Cond.initialized cls :: vx_atS own ic cls names, vx_ot w = true)
    (hU : vx_Zq Bundle.tN "UNASSIGNED_STACK" Bundle.steD A s s.heap) (hN : vx_Zq Bundle.tN "SUPPRESSED_SENTINEL" Bundle.listD A s s.heap) (hS : va_S A s.heap H locs) (hsize : ls.size = c.maxLocals)
    (d0 : decode cc pc = .ok (.new ik, 3)) (d3 : decode cc (pc + 3) = .ok (.dup, 1)) (d4 : decode cc (pc + 4) = .ok (.ldc_w is, 3)) (d7 : decode cc (pc + 7) = .ok (.invokespecial ic, 3)) (d10 : decode cc (pc + 10) = .ok (.athrow, 1))
    (hout : ∀ x ∈ c.exceptionTable.toList, covers x (pc + 10) = false)
    (hRframes : names.length + 3 < R.frames) (hRlocals : (rest.map fun v => v.category).sum + (13 * (names.length + 1) + 43) ≤ R.locals) (hRcells : cells + 1 ≤ R.cells) (hRslots : slots + 6 ≤ R.slots) (hlocks : meth.locks = false)
    (hx : ∀ t : State, s.vm.Alike t.vm → H.size ≤ t.heap.size → (∀ q : Nat, q < H.size → t.heap[q]? = H[q]?) → XC cls s t)
    (hf : ∀ z ∈ locs, free z.base) (hc : cells + 1 ≤ mc) (hs : slots + 6 ≤ ms) :
    W p l e R s m args below meth c H locs cells slots (vx_MQ below Qc XC args s mc ms free) (F0 m pc ls rest) := by
  intro T hT X
  have htr : e.platform.stackTraces = false := (show e.platform.stackTraces = l.stackTraces by rw [X.admits.platform]).trans hl
  have Y := vx_rebase X (R' := { frames := R.frames, locals := R.locals, cells := 1, slots := 6 }) (Nat.le_refl _) (Nat.le_refl _) hRcells hRslots
  obtain ⟨s', hA⟩ : ∃ z, z = (T.setVm s.vm).setFrames (.invoking m args :: below) := ⟨_, rfl⟩
  rw [← hA] at Y
  have hvm : s'.vm = s.vm := by rw [hA]; rfl
  have hhp : s'.heap = H := by rw [hA]; exact hT
  have hW0 : s.WarmedH s'.vm := by rw [hvm]; exact State.WarmedH.refl s
  have hat' : ∀ w ∈ vx_atS own ic cls names, w.before args s' = true := fun w hw => vx_ot_at hW0 hvm.symm (hgood w (List.mem_cons_of_mem _ (List.mem_cons_of_mem _ hw))) (hat w hw)
  have hk' : (Cond.classLink own ik cls).before args s' = true := vx_ot_at hW0 hvm.symm (hgood _ List.mem_cons_self) hk
  have hini' : (Cond.initialized cls).before args s' = true := vx_ot_at hW0 hvm.symm (hgood _ (List.mem_cons_of_mem _ List.mem_cons_self)) hini
  have hU' : vx_Zq Bundle.tN "UNASSIGNED_STACK" Bundle.steD A s' s'.heap := by rw [hhp]; exact vx_Zq.moved hW0.alike (hU.kept hS.2.1)
  have hN' : vx_Zq Bundle.tN "SUPPRESSED_SENTINEL" Bundle.listD A s' s'.heap := by rw [hhp]; exact vx_Zq.moved hW0.alike (hN.kept hS.2.1)
  have h : ∀ w ∈ Bundle.ownAtoms own ic cls names, w.before args s' = true := vx_own hat' (vx_isRefq hU'.1) (vx_isRefq hN'.1) hU'.2.word hN'.2.word
  have hown' : s'.vm.findClass own = some m.cls := by rw [hvm]; exact hown
  have hins : (Cond.instantiable cls 6).before args s' = true := h _ (by simp [Bundle.ownAtoms])
  obtain ⟨vm₁, cX, kX, hfX, hkX, -, -, X₁, st1⟩ := Y.newCold hexec (own := own) (C := cls) (index := ik) (n := 6) hown' hk' hins hini'
    (g := F0 m pc ls rest) rfl (by rw [hb]; exact d0) (Nat.le_refl _) (Nat.le_refl _)
  generalize hT1 : (T.setVm vm₁).pushCell { cls := cX, slots := kX.instanceTypes.map defaultValue, vm := .none } = T1 at X₁ st1
  have hcat : (Value.ref T.heap.size).category = 1 := rfl
  have hcellA : T1.heap[T.heap.size]? = some (freshCell cX kX) := by rw [← hT1]; exact State.heap_pushCell_size _ _
  have d3' : decode c.code (pc + 3) = .ok (.dup, 1) := by rw [hb]; exact d3
  have d4' : decode c.code (pc + 4) = .ok (.ldc_w is, 3) := by rw [hb]; exact d4
  have hstr' : vk_R own is text sa s' := vk_R.warm hW0 hstr
  obtain ⟨U, hsteps, hrun, hend, hW, hsame, ce, hce, hO⟩ := X₁.ctorThrowS hexec htr (own := own) (cls := cls) (names := names) (ic := ic) hown' hcls hnames h (fun x hx => nomatch hx) hfX hkX hcellA (by rw [hhp, hT]; exact Nat.le_refl _) (msg := .ref sa) rfl
    (g := { method := m, pc := pc + 7, locals := ls, stack := .ref sa :: .ref T.heap.size :: .ref T.heap.size :: rest, locked := none }) rfl hsize rfl rfl (rest := rest) rfl
    (by rw [hb]; exact d7) (by rw [hb]; exact d10) hout hRframes (by simp only [List.map_cons, List.sum_cons, hcat]; omega) hlocks
  obtain ⟨f1, f2⟩ := vx_frame hsame
  rw [hhp] at f1 f2
  have hWs : s.WarmedH U.vm := State.WarmedH.trans hW0 hW
  have hcl : s.vm.findClass cls = some ce.cls := by
    have h9 := hO.cls
    rw [hvm] at h9
    exact h9
  have hall : s.sameButNew ({ U with vm := s.vm } : State) locs mc ms := by
    subst hA
    obtain ⟨e1, e2⟩ := hsame
    rw [State.setFrames_setFrames] at e1
    have h2 : (T.setVm s.vm).sameButNew ({ U with vm := s.vm } : State) [] (0 + 1) (0 + 6) := ⟨e1, e2⟩
    have h3 := X.same.trans h2
    rw [List.append_nil] at h3
    exact h3.mono hc hs
  refine ⟨U, ?_, .threw T.heap.size, hrun, hend, Or.inr ⟨T.heap.size, rfl, cls, ce, locs, hx U hWs.alike f1 (fun q hq => f2 q hq (fun z hz => nomatch hz)), hce, hO.vm, hcl, hWs, hall, hf⟩⟩
  refine st1 _ ?_
  show Steps p.tables e below (T1.setTop { method := m, pc := pc + 3, locals := ls, stack := .ref T.heap.size :: rest, locked := none }) _
  jvm_step X₁.here [X₁.here.top, hexec, d3', Value.category]
  exact X₁.ldcStringW hexec (own := own) (text := text) (index := is) (a := sa) hown' hstr'.1 hstr'.2
    (g := { method := m, pc := pc + 4, locals := ls, stack := .ref T.heap.size :: .ref T.heap.size :: rest, locked := none }) rfl d4' _ hsteps
end Ends
section Bodies
variable {l : Launch}
theorem vx_ofW {y : MethodName} {ws ws' : List Cond} {rm : Room} {Pc : Array Value → State → Prop} {Qc : Array Value → State → Outcome → State → Prop} {XC : String → State → State → Prop} {mc ms : Nat} {free : Addr → Prop} {cc : ByteArray} {maxL : Nat} {ret : Option FieldType}
    (hy : plainName y.cls = true) (hw : ws = Cond.code y cc maxL ret :: ws')
    (body : ∀ p e s m args below meth c s₁, BodyLoose p l y (headSpec ws rm) cc maxL ret e s m args below meth c s₁ → c.maxLocals = maxL → (∀ x ∈ c.exceptionTable.toList, False) → Pc args s →
      W p l e (headSpec ws rm).room s m args below meth c s.heap [] 0 0 (vx_MQ below Qc XC args s mc ms free) (entryFrame m args maxL)) : vx_Met l y ws rm Pc Qc XC mc ms free := by
  refine MetFree.of_bodyS (code := cc) (maxLocals := maxL) (ret := ret) hy ?_ ?_
  · intro args s m h hn
    obtain ⟨meth, c, h1, h2, h3, h4, h5, h6, -, -⟩ := Cond.code_spec hn (atoms_spec (ws := ws) h _ (by rw [hw]; exact List.mem_cons_self))
    exact ⟨meth, c, h1, h2, h3, h4, h5, h6⟩
  · intro p e s m args below meth c s₁ B hml hP _
    have hh0 : s₁.heap = s.heap := by rw [B.state]; rfl
    have ht : ∀ x ∈ c.exceptionTable.toList, False := by
      obtain ⟨meth9, c9, h1, h2, -, -, -, -, h7, -⟩ := Cond.code_spec B.named (atoms_spec (ws := ws) B.pre _ (by rw [hw]; exact List.mem_cons_self))
      cases Option.some.inj (h1.symm.trans B.method)
      cases Option.some.inj (h2.symm.trans (Stand.of_body B).code)
      intro x hx
      rw [Array.isEmpty_iff.mp h7] at hx
      cases hx
    obtain ⟨t, a1, o, b1, b2, b3⟩ := body p e s m args below meth c s₁ B hml ht hP s₁ hh0 (Stand.of_body B)
    exact ⟨t, o, a1, b1, b2, b3⟩
/-- the table of a body with handlers -/
theorem vx_table {p : Program} {x y : MethodName} {S : Spec} {cc bytes : ByteArray} {maxL maxL' : Nat} {ret ret' : Option FieldType} {e : Env} {s s₁ : State} {m : MethodId} {args : Array Value} {below : List Frame} {meth : Method} {c : Code} {hh : List (Nat × Nat × Nat × Nat)}
    (B : BodyLoose p l y S cc maxL ret e s m args below meth c s₁) (h : (Cond.codeWith y bytes maxL' ret' hh).before args s = true) : c.exceptionTable.toList = tableOf hh := by
  obtain ⟨m9, meth9, c9, hn9, h1, h2, -, -, h6, -⟩ := Cond.codeWith_spec h
  cases Option.some.inj (hn9.symm.trans B.named)
  cases Option.some.inj (h1.symm.trans B.method)
  cases Option.some.inj (h2.symm.trans (Stand.of_body B).code)
  rw [← h6, table_eq]
end Bodies
end VXA
/-! ===== END ===== -/
/-! ===== BEGIN a static call of a method with an exception table ===== -/
section VXS
variable {p : Program} {l : Launch} {e : Env} {R : Room} {s : State} {m : MethodId} {args : Array Value} {below : List Frame} {meth : Method} {c : Code} {T : State} {H : Heap} {locs : List Loc} {cells slots : Nat}
abbrev vx_CSW (R : Room) (s : State) (args : Array Value) (own : String) (index : Nat) (y : MethodName) (bytes : ByteArray) (maxL : Nat) (ret : Option FieldType) (hh : List (Nat × Nat × Nat × Nat)) (ws : List Cond) (rm : Room) (mc ms n : Nat) : Prop :=
  (rm.cells = mc ∧ rm.slots = ms ∧ rm.frames + 1 ≤ R.frames ∧ 8 + (maxL + 11) + rm.locals ≤ R.locals ∧ (∀ w ∈ ws, ∀ (a' : Array Value) (U : State), s.WarmedH U.vm → w.before a' U = true) ∧ Cond.codeWith y bytes maxL ret hh ∈ ws) ∧
  (Cond.codeWith y bytes maxL ret hh).before args s = true ∧ (Cond.initialized y.cls).before args s = true ∧ (y.cls ≠ "java/lang/invoke/MethodHandle" ∧ y.cls ≠ "java/lang/invoke/VarHandle") ∧
  (∀ sig, parseMethodDescriptor y.desc = some sig → n = sig.parameters.length) ∧ (Cond.methodLink own index y).before args s = true ∧ (Cond.static y).before args s = true
theorem vx_cwSW {own : String} {index maxL mc ms : Nat} {y : MethodName} {bytes : ByteArray} {ret : Option FieldType} {hh : List (Nat × Nat × Nat × Nat)} {Ts ws ws' : List Cond} {rm : Room} (n : Nat) (ht : ∀ w ∈ Ts, w.before args s = true) (hT : GoodIn Ts (va_wsS own index y ws)) (hw : ws = Cond.codeWith y bytes maxL ret hh :: ws') (hrc : rm.cells = mc) (hrs : rm.slots = ms)
    (hd : y.cls ≠ "java/lang/invoke/MethodHandle" ∧ y.cls ≠ "java/lang/invoke/VarHandle" ∧ (parseMethodDescriptor y.desc).map (fun d => d.parameters.length) = some n) (hR : rm.frames + 1 ≤ R.frames ∧ 8 + (maxL + 11) + rm.locals ≤ R.locals) :
    vx_CSW R s args own index y bytes maxL ret hh ws rm mc ms n := by
  have ok : ∀ w ∈ va_wsS own index y ws, w.before args s = true := fun w h => ht w (hT w h).1
  have hG : GoodIn Ts ws := fun w h => hT w (by unfold va_wsS; exact List.mem_append_right _ h)
  have hc : Cond.codeWith y bytes maxL ret hh ∈ ws := by rw [hw]; exact List.mem_cons_self
  refine ⟨⟨hrc, hrs, hR.1, hR.2, pay_in ht hG, hc⟩, ht _ (hG _ hc).1, ok _ (by simp [va_wsS]), ⟨hd.1, hd.2.1⟩, fun sig h => ?_, ok _ (by simp [va_wsS]), ok _ (by simp [va_wsS])⟩
  have h2 := hd.2.2
  rw [h] at h2
  exact (Option.some.inj h2).symm
theorem vx_callSW (X : Stand p l e R s m args below meth c T locs cells slots) (hexec : p.tables.exec = Jvm.exec) {own : String} {index : Nat} {y : MethodName} {bytes : ByteArray} {maxL : Nat} {ret : Option FieldType} {hh : List (Nat × Nat × Nat × Nat)}
    (hown : s.vm.findClass own = some m.cls) (hlink : (Cond.methodLink own index y).before args s = true) (hstat : (Cond.static y).before args s = true) (hinit : (Cond.initialized y.cls).before args s = true)
    (hcode : (Cond.codeWith y bytes maxL ret hh).before args s = true) (hy : y.cls ≠ "java/lang/invoke/MethodHandle" ∧ y.cls ≠ "java/lang/invoke/VarHandle")
    {W9 : Nat} {Pre : Pt → Array Value → Prop} {Post : Pt → Array Value → Option Value → Pt → Prop} (hK : Back l R p e below s args y 3 W9 Pre Post)
    {g : JFrame} (hg : g.method = m) (hsize : g.locals.size = c.maxLocals) {argsL rest : List Value} (hlen : ∀ sig, parseMethodDescriptor y.desc = some sig → argsL.length = sig.parameters.length)
    (hstack : g.stack = argsL.reverse ++ rest) (hW : 2 * g.monitorRoom + (rest.map fun v => v.category).sum ≤ W9) (hdg : decode c.code g.pc = .ok (.invokestatic index, 3))
    (hpre : ∀ vm₁, s.WarmedH vm₁ → Pre ⟨T.setVm vm₁, locs, cells, slots⟩ argsL.toArray) :
    ∃ (v : Option Value) (vm₁ : Vm) (B : Pt), s.WarmedH vm₁ ∧ Stand p l e R s m args below meth c B.U B.locs B.cells B.slots ∧ Post ⟨T.setVm vm₁, locs, cells, slots⟩ argsL.toArray v B ∧
      ∀ target, Steps p.tables e below (B.U.setTop { g with pc := g.pc + 3, stack := v.toList ++ rest }) target → Steps p.tables e below (T.setTop g) target := by
  obtain ⟨mk, methM, cM, hnamed, hmethM, -, -, -, -, -, -, hsigM⟩ := Cond.codeWith_spec hcode
  have hstatic : methM.isStatic = true := Cond.static_spec hnamed hmethM hstat
  obtain ⟨kP, hkP, -⟩ := className_of_methodNamed hnamed
  have hinitP : kP.init = .initialized := Cond.initialized_spec (findClass_of_methodNamed hnamed) hkP hinit
  obtain ⟨vm₁, X₁, hstep₁⟩ := X.invokestatic hexec hown hlink hnamed hmethM hstatic hkP hinitP hy (g := g) hg (argsL := argsL) (rest := rest) (hlen _ hsigM) hstack hdg
  obtain ⟨v, B, X', hpost, hsteps⟩ := hK m meth c ⟨T.setVm vm₁, locs, cells, slots⟩ { g with stack := rest } (.invokestatic index) mk argsL.toArray X₁ hg hsize hdg hW (X₁.named hnamed) (hpre vm₁ X₁.warmed)
  exact ⟨v, vm₁, B, X₁.warmed, X', hpost, fun target h => hstep₁ _ fun acts => by rw [doInvoke_state]; exact hsteps.trans h⟩
theorem vx_runSW {y : MethodName} {bytes cc : ByteArray} {maxL nL mc ms n index : Nat} {ret : Option FieldType} {hh : List (Nat × Nat × Nat × Nat)} {ws : List Cond} {rm : Room} {Pc : Array Value → State → Prop} {Qc : Array Value → State → Outcome → State → Prop} {free : Addr → Prop} {Ts : List Cond} {own : String} {As rest : List Value} {g : JFrame}
    (S : CallFix p m c cc nL s args Ts own) (hM : Met l y ws rm Pc Qc mc ms free) (cw : vx_CSW R s args own index y bytes maxL ret hh ws rm mc ms n) (hp : PreS s H Pc As)
    (hg : g.method = m) (hn : As.length = n) (hsize : g.locals.size = nL) (hstack : g.stack = As.reverse ++ rest) (hW : 2 * g.monitorRoom + (rest.map fun v => v.category).sum ≤ 8) (hdg : decode cc g.pc = .ok (.invokestatic index, 3)) (hf : cells + mc ≤ R.cells ∧ slots + ms ≤ R.slots) :
    va_Run p l e R s m args below meth c H locs cells slots mc ms g rest (Qc As.toArray) (free) := by
  obtain ⟨⟨hrc, hrs, hfr, hlo, hws, hcw⟩, hcode, hini, hy, hlen, hl, hstt⟩ := cw
  have hK : Back l R p e below s args y 3 8 (PreOf R mc ms Pc) (PostOf Qc mc ms free) := va_backW (hh := hh) (bytes := bytes) (maxL := maxL) (ret := ret) hM hp.1 hrc hrs hfr hlo hws hcw (fun a' U hW => word_at hW (Or.inl (by first | rfl | simp [Cond.onTables, Cond.keeps, Cond.steady])) hini)
  obtain ⟨hx, hb, hml, ho, -⟩ := S
  intro T hT X
  obtain ⟨v, vm₁, ⟨U', l2, c2, s2⟩, hW₁, X', ⟨g', mk, t, L, e1, e2, hq, h1, hL, h2, h3⟩, st⟩ := vx_callSW X hx (hh := hh) (bytes := bytes) (maxL := maxL) (ret := ret) ho hl hstt hini hcode hy hK hg (hsize.trans hml.symm) (argsL := As) (rest := rest) (fun sig h => hn.trans (hlen sig h)) hstack hW (by rw [hb]; exact hdg)
    (fun vm₁ hW₁ => ⟨hf.1, hf.2, hp.2 (T.setVm vm₁) hT hW₁⟩)
  dsimp only [Pt.U, Pt.locs, Pt.cells, Pt.slots] at X' e1 e2 h1 h2 h3 st
  subst h1; subst h2; subst h3
  exact ⟨v, (T.setVm vm₁).calling g' mk As.toArray, t, U', L, hT, X', hL, e1, e2, hq, st⟩
/-- not caught here, past rows that name other classes: it goes on to the caller -/
theorem vx_outP {p : Program} {l : Launch} {e : Env} {R : Room} {s : State} {m : MethodId} {args : Array Value} {below : List Frame} {meth : Method} {c : Code} {H : Heap} {locs : List Loc} {cells slots : Nat} {free : Addr → Prop} {ls : Array Slot} {rest : List Value} {Qc : Array Value → State → Outcome → State → Prop} {XC : String → State → State → Prop}
    {pc : Nat} {own E : String} {ce : Cell} {q : Addr} {mc ms : Nat} (hown : s.vm.findClass own = some m.cls) (hlocks : meth.locks = false)
    (hpass : ∀ z ∈ c.exceptionTable.toList, covers z pc = false ∨ (z.catchType ≠ 0 ∧ ∃ nm : String, (Cond.classLink own z.catchType nm).before args s = true ∧ va_Nc E nm s)) (hcell : H[q]? = some ce) (hv : ce.vm = .none) (hcl : s.vm.findClass E = some ce.cls)
    (hx : ∀ t : State, t.heap = H → s.vm.Alike t.vm → XC E s t) (hf : ∀ z ∈ locs, free z.base) (hc : cells ≤ mc) (hs : slots ≤ ms) :
    vx_W p l e R s m args below meth c H locs cells slots (vx_MQ below Qc XC args s mc ms free) (F0 m pc ls rest) q := by
  intro T hT X
  have hpl : e.platform.magicAccessors = ({} : Platform).magicAccessors := by rw [X.admits.platform]
  obtain ⟨vm', hW', X', st⟩ := X.outThrough hlocks q (g := F0 m pc ls rest) rfl rfl rfl (cell := ce) (by rw [hT]; exact hcell) (by rw [hv]; rfl)
    (by obtain ⟨k9, h9, -⟩ := Vm.findClass_spec hcl; exact ⟨k9, h9⟩) (fun z hz => by
      rcases hpass z hz with h | ⟨hz0, nm, hl1, hn1⟩
      · exact Or.inl h
      · obtain ⟨c6, hc6, hcl6⟩ := Cond.classLink_spec hown hl1 e.platform hpl
        obtain ⟨a8, b8, h1, h2, h3⟩ := hn1
        cases Option.some.inj (h1.symm.trans hcl)
        cases Option.some.inj (h2.symm.trans hc6)
        exact Or.inr ⟨hz0, _, hcl6, h3⟩)
  obtain ⟨g₀, hfr⟩ := X'.frames_eq
  have hcell9 : ((T.setVm vm').setFrames (.throwing q :: below)).heap[q]? = some ce := by
    show T.heap[q]? = some ce
    rw [hT]; exact hcell
  have hend : Ended ((T.setVm vm').setFrames (.throwing q :: below)) below (.threw q) := State.frames_setFrames _ (State.cur_lt_of_frames hfr)
  refine ⟨(T.setVm vm').setFrames (.throwing q :: below), ?_, .threw q, X'.here.running, hend, Or.inr ⟨q, rfl, E, ce, locs, hx _ hT (X'.ends _).1.alike, hcell9, hv, hcl, (X'.ends _).1, (X'.ends _).2.mono hc hs, hf⟩⟩
  rw [X.pushThrowing_eq]
  exact st
/-- a thing of a world lies in the heap -/
theorem vx_lt {D : va_G} {cl : List vw_C} {ws : va_W} {H1 : Heap} (h : va_P D cl ws H1) {k : Nat} {q : Nat × va_E} (hk : ws[k]? = some q) : q.1 < H1.size := (h k q hk).lt
end VXS
/-! ===== END ===== -/
/-! ===== BEGIN methods with a table of their own: called by a name, returning or throwing ===== -/
section VXH
/-! vx_backW, vx_callVX, vx_callSX, vx_callVW, vx_runVW, vx_runVX, vx_runSX, vx_ofWH follow the same proofs as their sisters above (Free/Laws.lean, Shelf42/LK1.lean); vx_outP calls Shelf42/NT130.lean (outThrough). -/
section
variable {l : Launch} {R : Room} {p : Program} {e : Env} {below : List Frame} {s : State} {sargs : Array Value} {y : MethodName} {len W9 : Nat}
theorem vx_backW {ws : List Cond} {rm : Room} {Pc : Array Value → State → Prop} {Qc : Array Value → State → Outcome → State → Prop} {XC : String → State → State → Prop} {mc ms : Nat} {free : Addr → Prop} {bytes : ByteArray} {maxL : Nat} {ret : Option FieldType} {hh : List (Nat × Nat × Nat × Nat)}
    (hM : vx_Met l y ws rm Pc Qc XC mc ms free) (hblind : FrameBlind Pc) (hrc : rm.cells = mc) (hrs : rm.slots = ms)
    (hframes : rm.frames + 1 ≤ R.frames) (hlocals : W9 + (maxL + 11) + rm.locals ≤ R.locals)
    (hws : ∀ w ∈ ws, ∀ a' U, s.WarmedH U.vm → w.before a' U = true) (hcode : Cond.codeWith y bytes maxL ret hh ∈ ws) (hinit : ∀ a' U, s.WarmedH U.vm → (Cond.initialized y.cls).before a' U = true) :
    vx_Back l R p e below s sargs y len W9 (PreOf R mc ms Pc) (PostOf Qc mc ms free) (vx_Post XC mc ms free) := by
  intro m meth c A g ig mk a X hg hsize hdg hW hn hp
  have h1 : (headSpec ws rm).pre.before a A.U = true := atoms_intro fun w hw => hws w hw _ _ X.warmed
  have h2 : (Cond.codeWith y bytes maxL ret hh).before a A.U = true := hws _ hcode _ _ X.warmed
  have h3 : (Cond.initialized y.cls).before a A.U = true := hinit _ _ X.warmed
  have h4 : A.cells + (headSpec ws rm).room.cells ≤ R.cells := by rw [show (headSpec ws rm).room.cells = mc from hrc]; exact hp.1
  have h5 : A.slots + (headSpec ws rm).room.slots ≤ R.slots := by rw [show (headSpec ws rm).room.slots = ms from hrs]; exact hp.2.1
  have hPc : Pc a (A.U.calling g mk a) := hblind _ _ _ _ hp.2.2
  obtain ⟨U, Ls, c0, s0⟩ := A
  dsimp only [Pt.U, Pt.locs, Pt.cells, Pt.slots] at h1 h2 h3 h4 h5 X hn hPc ⊢
  obtain ⟨m9, methY, cY, hn9, hmY, hcY, -, hlY, -⟩ := Cond.codeWith_spec h2
  cases Option.some.inj (hn9.symm.trans hn)
  obtain ⟨kY, hkY, -⟩ := className_of_methodNamed hn
  have hinitY : kY.init = .initialized := Cond.initialized_spec (findClass_of_methodNamed hn) hkY h3
  have h : At U g.method c below := by rw [hg]; exact X.here
  have hlocals9 : W9 + (maxL + 11) + (headSpec ws rm).room.locals ≤ R.locals := hlocals
  have happ : (headSpec ws rm).appliesLoose y e.platform (U.calling g mk a) = true :=
    Spec.appliesLoose_calling (g := g) h hdg hn hkY hinitY
      (X.room_calling (g := g) (R' := (headSpec ws rm).room) hsize hmY hcY hframes (by rw [hlY]; omega) h4 h5) h1
  obtain ⟨mid, hmid⟩ := h.above
  have hfr : (U.setTop g).frames = (.java g :: mid) ++ below := by rw [State.frames_setTop' g h.top, hmid]; rfl
  obtain ⟨o, s₂, hsteps, -, hend, hq⟩ := Steps.callFree hM p X.admits X.cas X.clock (acts := []) hfr happ hPc trivial
  have hq' : vx_Q Qc XC mc ms free a (U.calling g mk a) o s₂ := hq
  rw [State.frames_setTop' g h.top] at hend
  obtain ⟨g₀, hg0⟩ := Option.isSome_iff_exists.mp h.top
  obtain ⟨r, hr⟩ := State.topJava?_eq_some.mp hg0
  have hr' : (({ U with heap := s₂.heap, slotsUsed := s₂.slotsUsed } : State).setVm s₂.vm).frames = .java g₀ :: r := hr
  rcases hq' with ⟨hqc, L, hfe, hL⟩ | ⟨q, rfl, E, ce, L, hx, hce, hcv, hcl, hW₂, hsm, hL⟩
  · obtain ⟨⟨v, rfl⟩, hW₂, e2, q2, q3, q4, q5, q6⟩ := id hfe
    have e3 : s₂ = ({ (U.calling g mk a).setFrames s₂.frames with heap := s₂.heap, slotsUsed := s₂.slotsUsed } : State).setVm s₂.vm := by
      have : s₂ = ({ s₂ with vm := (U.calling g mk a).vm } : State).setVm s₂.vm := rfl
      rw [e2] at this
      exact this
    obtain ⟨c₂, i₂, len₂, hc₂, hd₂, hf₂⟩ := hend
    have hW' : U.WarmedH s₂.vm := hW₂
    have hcc : c₂ = c := by
      have h1 : s₂.code? g.method = U.code? g.method := by
        rw [State.code?_eq, State.code?_eq, hW'.alike.method?]
      exact Option.some.inj (hc₂.symm.trans (h1.trans h.code))
    subst hcc
    have hlen : len₂ = len := by rw [hdg] at hd₂; cases hd₂; rfl
    subst hlen
    have hs₂ : s₂ = (({ U with heap := s₂.heap, slotsUsed := s₂.slotsUsed } : State).setVm s₂.vm).setTop { g with pc := g.pc + len₂, stack := v.toList ++ g.stack } := by
      refine e3.trans ?_
      rw [hf₂, State.calling_eq h.top, State.setFrames_setFrames, State.setTop_of_frames _ hr', hr]
      rfl
    have hsame : U.sameButNew ({ U with heap := s₂.heap, slotsUsed := s₂.slotsUsed } : State) L mc ms := by
      refine ⟨?_, q2, q3, q4, q5, q6⟩
      obtain ⟨t, ht, -⟩ := State.frames_cons hr
      show ({ U with heap := s₂.heap, slotsUsed := s₂.slotsUsed } : State) = { U.setFrames U.frames with heap := s₂.heap, slotsUsed := s₂.slotsUsed }
      rw [State.setFrames_self ht]
    subst hg
    refine Or.inl ⟨v, ⟨(({ U with heap := s₂.heap, slotsUsed := s₂.slotsUsed } : State).setVm s₂.vm), Ls ++ L, c0 + mc, s0 + ms⟩,
      ⟨X.admits, X.cas, X.clock, X.frames, X.room, X.hears, X.method, X.code, (X.here.setHeapUsed s₂.heap s₂.slotsUsed).setVm hW'.alike, X.tail, State.WarmedH.trans X.warmed hW', X.limits, X.bytes, X.same.trans (hsame.setVm s.vm)⟩,
      ⟨g, mk, s₂, L, rfl, rfl, hqc, rfl, hL, rfl, rfl⟩, ?_⟩
    show Steps p.tables e below _ ((({ U with heap := s₂.heap, slotsUsed := s₂.slotsUsed } : State).setVm s₂.vm).setTop { g with pc := g.pc + len₂, stack := v.toList ++ g.stack })
    rw [← hs₂]
    exact hsteps
  · obtain ⟨e2, q2, q3, q4, q5, q6⟩ := id hsm
    have e3 : s₂ = ({ (U.calling g mk a).setFrames s₂.frames with heap := s₂.heap, slotsUsed := s₂.slotsUsed } : State).setVm s₂.vm := by
      have : s₂ = ({ s₂ with vm := (U.calling g mk a).vm } : State).setVm s₂.vm := rfl
      rw [e2] at this
      exact this
    have hf₂ : s₂.frames = .throwing q :: .java g :: U.frames.tail := hend
    have hW' : U.WarmedH s₂.vm := hW₂
    have hs₂ : s₂ = ((({ U with heap := s₂.heap, slotsUsed := s₂.slotsUsed } : State).setVm s₂.vm).setTop g).pushFrame (.throwing q) := by
      refine e3.trans ?_
      rw [hf₂, State.calling_eq h.top, State.setFrames_setFrames, State.pushFrame, State.frames_setTop _ hr', State.setTop_of_frames _ hr', State.setFrames_setFrames, hr]
      rfl
    have hsame : U.sameButNew ({ U with heap := s₂.heap, slotsUsed := s₂.slotsUsed } : State) L mc ms := by
      refine ⟨?_, q2, q3, q4, q5, q6⟩
      obtain ⟨t, ht, -⟩ := State.frames_cons hr
      show ({ U with heap := s₂.heap, slotsUsed := s₂.slotsUsed } : State) = { U.setFrames U.frames with heap := s₂.heap, slotsUsed := s₂.slotsUsed }
      rw [State.setFrames_self ht]
    subst hg
    refine Or.inr ⟨q, ⟨(({ U with heap := s₂.heap, slotsUsed := s₂.slotsUsed } : State).setVm s₂.vm), Ls ++ L, c0 + mc, s0 + ms⟩,
      ⟨X.admits, X.cas, X.clock, X.frames, X.room, X.hears, X.method, X.code, (X.here.setHeapUsed s₂.heap s₂.slotsUsed).setVm hW'.alike, X.tail, State.WarmedH.trans X.warmed hW', X.limits, X.bytes, X.same.trans (hsame.setVm s.vm)⟩,
      ⟨g, mk, s₂, L, E, ce, rfl, rfl, hx, hce, hcv, hcl, rfl, hL, rfl, rfl⟩, ?_⟩
    show Steps p.tables e below _ (((({ U with heap := s₂.heap, slotsUsed := s₂.slotsUsed } : State).setVm s₂.vm).setTop g).pushFrame (.throwing q))
    rw [← hs₂]
    exact hsteps
end
variable {p : Program} {l : Launch} {e : Env} {R : Room} {s : State} {m : MethodId} {args : Array Value} {below : List Frame} {meth : Method} {c : Code} {T : State} {H : Heap} {locs : List Loc} {cells slots : Nat}
theorem vx_callVX (X : Stand p l e R s m args below meth c T locs cells slots) (hexec : p.tables.exec = Jvm.exec) {own C : String} {index : Nat} {y : MethodName} {bytes : ByteArray} {maxL : Nat} {ret : Option FieldType} {hh : List (Nat × Nat × Nat × Nat)}
    (hown : s.vm.findClass own = some m.cls) (hlink : (Cond.methodLink own index y).before args s = true) (hinst : (Cond.instanceMethod y).before args s = true) (hsel : (Cond.selects C y y).before args s = true)
    (hcode : (Cond.codeWith y bytes maxL ret hh).before args s = true) (hy : y.cls ≠ "java/lang/invoke/MethodHandle" ∧ y.cls ≠ "java/lang/invoke/VarHandle")
    {W9 : Nat} {Pre : Pt → Array Value → Prop} {Post : Pt → Array Value → Option Value → Pt → Prop} {PostX : Pt → Array Value → Addr → Pt → Prop} (hK : vx_Back l R p e below s args y 3 W9 Pre Post PostX)
    {b : Addr} {cellB : Cell} (hcell : T.heap[b]? = some cellB) (hobj : cellB.vm.isStatics = false) (hcls : s.vm.findClass C = some cellB.cls)
    {g : JFrame} (hg : g.method = m) (hsize : g.locals.size = c.maxLocals) {argsL rest : List Value} (hlen : ∀ sig, parseMethodDescriptor y.desc = some sig → argsL.length = sig.parameters.length)
    (hstack : g.stack = argsL.reverse ++ .ref b :: rest) (hW : 2 * g.monitorRoom + (rest.map fun v => v.category).sum ≤ W9) (hdg : decode c.code g.pc = .ok (.invokevirtual index, 3))
    (hpre : ∀ vm₁, s.WarmedH vm₁ → Pre ⟨T.setVm vm₁, locs, cells, slots⟩ (Value.ref b :: argsL).toArray) :
    (∃ (v : Option Value) (vm₁ : Vm) (B : Pt), s.WarmedH vm₁ ∧ Stand p l e R s m args below meth c B.U B.locs B.cells B.slots ∧ Post ⟨T.setVm vm₁, locs, cells, slots⟩ (Value.ref b :: argsL).toArray v B ∧
      ∀ target, Steps p.tables e below (B.U.setTop { g with pc := g.pc + 3, stack := v.toList ++ rest }) target → Steps p.tables e below (T.setTop g) target) ∨
    (∃ (q : Addr) (vm₁ : Vm) (B : Pt), s.WarmedH vm₁ ∧ Stand p l e R s m args below meth c B.U B.locs B.cells B.slots ∧ PostX ⟨T.setVm vm₁, locs, cells, slots⟩ (Value.ref b :: argsL).toArray q B ∧
      Steps p.tables e below (T.setTop g) ((B.U.setTop { g with stack := rest }).pushFrame (.throwing q))) := by
  obtain ⟨mk, methM, hnamed, hmethM, hstM, habM⟩ := Cond.instanceMethod_spec hinst
  obtain ⟨m8, methM', cM, hn8, hmethM', -, -, -, -, -, -, hsigM⟩ := Cond.codeWith_spec hcode
  cases Option.some.inj (hn8.symm.trans hnamed)
  cases hmethM.symm.trans hmethM'
  obtain ⟨c2, r2, m2, q1, q2, q3, q4, kP, hkP, hkPi⟩ := Cond.selects_spec hsel
  cases hcls.symm.trans q1
  cases (State.methodFound?_of_named hnamed hy).symm.trans q2
  cases hnamed.symm.trans q3
  have hselP : selectMethod e.platform s.vm cellB.cls mk = .method mk := by rw [Launch.admits_selectMethod X.admits]; exact q4
  obtain ⟨vm₁, X₁, hstep₁⟩ := X.invokevirtual hexec hown hlink hnamed hmethM hstM hkP hkPi hy (a := b) (cell := cellB) hcell
    (fun z h => by rw [h] at hobj; cases hobj) hselP hmethM habM hkP hkPi (g := g) hg (argsL := argsL) (rest := rest) (hlen _ hsigM) hstack hdg
  rcases hK m meth c ⟨T.setVm vm₁, locs, cells, slots⟩ { g with stack := rest } (.invokevirtual index) mk (Value.ref b :: argsL).toArray X₁ hg hsize hdg hW (X₁.named hnamed) (hpre vm₁ X₁.warmed) with ⟨v, B, X', hpost, hsteps⟩ | ⟨q, B, X', hpost, hsteps⟩
  · exact Or.inl ⟨v, vm₁, B, X₁.warmed, X', hpost, fun target h => hstep₁ _ fun acts => by rw [doInvoke_state]; exact hsteps.trans h⟩
  · exact Or.inr ⟨q, vm₁, B, X₁.warmed, X', hpost, hstep₁ _ fun acts => by rw [doInvoke_state]; exact hsteps⟩
theorem vx_callSX (X : Stand p l e R s m args below meth c T locs cells slots) (hexec : p.tables.exec = Jvm.exec) {own : String} {index : Nat} {y : MethodName} {bytes : ByteArray} {maxL : Nat} {ret : Option FieldType} {hh : List (Nat × Nat × Nat × Nat)}
    (hown : s.vm.findClass own = some m.cls) (hlink : (Cond.methodLink own index y).before args s = true) (hstat : (Cond.static y).before args s = true) (hinit : (Cond.initialized y.cls).before args s = true)
    (hcode : (Cond.codeWith y bytes maxL ret hh).before args s = true) (hy : y.cls ≠ "java/lang/invoke/MethodHandle" ∧ y.cls ≠ "java/lang/invoke/VarHandle")
    {W9 : Nat} {Pre : Pt → Array Value → Prop} {Post : Pt → Array Value → Option Value → Pt → Prop} {PostX : Pt → Array Value → Addr → Pt → Prop} (hK : vx_Back l R p e below s args y 3 W9 Pre Post PostX)
    {g : JFrame} (hg : g.method = m) (hsize : g.locals.size = c.maxLocals) {argsL rest : List Value} (hlen : ∀ sig, parseMethodDescriptor y.desc = some sig → argsL.length = sig.parameters.length)
    (hstack : g.stack = argsL.reverse ++ rest) (hW : 2 * g.monitorRoom + (rest.map fun v => v.category).sum ≤ W9) (hdg : decode c.code g.pc = .ok (.invokestatic index, 3))
    (hpre : ∀ vm₁, s.WarmedH vm₁ → Pre ⟨T.setVm vm₁, locs, cells, slots⟩ argsL.toArray) :
    (∃ (v : Option Value) (vm₁ : Vm) (B : Pt), s.WarmedH vm₁ ∧ Stand p l e R s m args below meth c B.U B.locs B.cells B.slots ∧ Post ⟨T.setVm vm₁, locs, cells, slots⟩ argsL.toArray v B ∧
      ∀ target, Steps p.tables e below (B.U.setTop { g with pc := g.pc + 3, stack := v.toList ++ rest }) target → Steps p.tables e below (T.setTop g) target) ∨
    (∃ (q : Addr) (vm₁ : Vm) (B : Pt), s.WarmedH vm₁ ∧ Stand p l e R s m args below meth c B.U B.locs B.cells B.slots ∧ PostX ⟨T.setVm vm₁, locs, cells, slots⟩ argsL.toArray q B ∧
      Steps p.tables e below (T.setTop g) ((B.U.setTop { g with stack := rest }).pushFrame (.throwing q))) := by
  obtain ⟨mk, methM, cM, hnamed, hmethM, -, -, -, -, -, -, hsigM⟩ := Cond.codeWith_spec hcode
  have hstatic : methM.isStatic = true := Cond.static_spec hnamed hmethM hstat
  obtain ⟨kP, hkP, -⟩ := className_of_methodNamed hnamed
  have hinitP : kP.init = .initialized := Cond.initialized_spec (findClass_of_methodNamed hnamed) hkP hinit
  obtain ⟨vm₁, X₁, hstep₁⟩ := X.invokestatic hexec hown hlink hnamed hmethM hstatic hkP hinitP hy (g := g) hg (argsL := argsL) (rest := rest) (hlen _ hsigM) hstack hdg
  rcases hK m meth c ⟨T.setVm vm₁, locs, cells, slots⟩ { g with stack := rest } (.invokestatic index) mk argsL.toArray X₁ hg hsize hdg hW (X₁.named hnamed) (hpre vm₁ X₁.warmed) with ⟨v, B, X', hpost, hsteps⟩ | ⟨q, B, X', hpost, hsteps⟩
  · exact Or.inl ⟨v, vm₁, B, X₁.warmed, X', hpost, fun target h => hstep₁ _ fun acts => by rw [doInvoke_state]; exact hsteps.trans h⟩
  · exact Or.inr ⟨q, vm₁, B, X₁.warmed, X', hpost, hstep₁ _ fun acts => by rw [doInvoke_state]; exact hsteps⟩
theorem vx_callVW (X : Stand p l e R s m args below meth c T locs cells slots) (hexec : p.tables.exec = Jvm.exec) {own C : String} {index : Nat} {y : MethodName} {bytes : ByteArray} {maxL : Nat} {ret : Option FieldType} {hh : List (Nat × Nat × Nat × Nat)}
    (hown : s.vm.findClass own = some m.cls) (hlink : (Cond.methodLink own index y).before args s = true) (hinst : (Cond.instanceMethod y).before args s = true) (hsel : (Cond.selects C y y).before args s = true)
    (hcode : (Cond.codeWith y bytes maxL ret hh).before args s = true) (hy : y.cls ≠ "java/lang/invoke/MethodHandle" ∧ y.cls ≠ "java/lang/invoke/VarHandle")
    {W9 : Nat} {Pre : Pt → Array Value → Prop} {Post : Pt → Array Value → Option Value → Pt → Prop} (hK : Back l R p e below s args y 3 W9 Pre Post)
    {b : Addr} {cellB : Cell} (hcell : T.heap[b]? = some cellB) (hobj : cellB.vm.isStatics = false) (hcls : s.vm.findClass C = some cellB.cls)
    {g : JFrame} (hg : g.method = m) (hsize : g.locals.size = c.maxLocals) {argsL rest : List Value} (hlen : ∀ sig, parseMethodDescriptor y.desc = some sig → argsL.length = sig.parameters.length)
    (hstack : g.stack = argsL.reverse ++ .ref b :: rest) (hW : 2 * g.monitorRoom + (rest.map fun v => v.category).sum ≤ W9) (hdg : decode c.code g.pc = .ok (.invokevirtual index, 3))
    (hpre : ∀ vm₁, s.WarmedH vm₁ → Pre ⟨T.setVm vm₁, locs, cells, slots⟩ (Value.ref b :: argsL).toArray) :
    ∃ (v : Option Value) (vm₁ : Vm) (B : Pt), s.WarmedH vm₁ ∧ Stand p l e R s m args below meth c B.U B.locs B.cells B.slots ∧ Post ⟨T.setVm vm₁, locs, cells, slots⟩ (Value.ref b :: argsL).toArray v B ∧
      ∀ target, Steps p.tables e below (B.U.setTop { g with pc := g.pc + 3, stack := v.toList ++ rest }) target → Steps p.tables e below (T.setTop g) target := by
  obtain ⟨mk, methM, hnamed, hmethM, hstM, habM⟩ := Cond.instanceMethod_spec hinst
  obtain ⟨m8, methM', cM, hn8, hmethM', -, -, -, -, -, -, hsigM⟩ := Cond.codeWith_spec hcode
  cases Option.some.inj (hn8.symm.trans hnamed)
  cases hmethM.symm.trans hmethM'
  obtain ⟨c2, r2, m2, q1, q2, q3, q4, kP, hkP, hkPi⟩ := Cond.selects_spec hsel
  cases hcls.symm.trans q1
  cases (State.methodFound?_of_named hnamed hy).symm.trans q2
  cases hnamed.symm.trans q3
  have hselP : selectMethod e.platform s.vm cellB.cls mk = .method mk := by rw [Launch.admits_selectMethod X.admits]; exact q4
  obtain ⟨vm₁, X₁, hstep₁⟩ := X.invokevirtual hexec hown hlink hnamed hmethM hstM hkP hkPi hy (a := b) (cell := cellB) hcell
    (fun z h => by rw [h] at hobj; cases hobj) hselP hmethM habM hkP hkPi (g := g) hg (argsL := argsL) (rest := rest) (hlen _ hsigM) hstack hdg
  obtain ⟨v, B, X', hpost, hsteps⟩ := hK m meth c ⟨T.setVm vm₁, locs, cells, slots⟩ { g with stack := rest } (.invokevirtual index) mk (Value.ref b :: argsL).toArray X₁ hg hsize hdg hW (X₁.named hnamed) (hpre vm₁ X₁.warmed)
  exact ⟨v, vm₁, B, X₁.warmed, X', hpost, fun target h => hstep₁ _ fun acts => by rw [doInvoke_state]; exact hsteps.trans h⟩
abbrev vx_CVW (R : Room) (s : State) (args : Array Value) (own C : String) (index : Nat) (y : MethodName) (bytes : ByteArray) (maxL : Nat) (ret : Option FieldType) (hh : List (Nat × Nat × Nat × Nat)) (ws : List Cond) (rm : Room) (mc ms n : Nat) : Prop :=
  (rm.cells = mc ∧ rm.slots = ms ∧ rm.frames + 1 ≤ R.frames ∧ 8 + (maxL + 11) + rm.locals ≤ R.locals ∧ (∀ w ∈ ws, ∀ (a' : Array Value) (U : State), s.WarmedH U.vm → w.before a' U = true) ∧ Cond.codeWith y bytes maxL ret hh ∈ ws) ∧
  (Cond.codeWith y bytes maxL ret hh).before args s = true ∧ (Cond.initialized y.cls).before args s = true ∧ (y.cls ≠ "java/lang/invoke/MethodHandle" ∧ y.cls ≠ "java/lang/invoke/VarHandle") ∧
  (∀ sig, parseMethodDescriptor y.desc = some sig → n = sig.parameters.length) ∧ (Cond.methodLink own index y).before args s = true ∧ (Cond.instanceMethod y).before args s = true ∧ (Cond.selects C y y).before args s = true
theorem vx_cwVW {own C : String} {index maxL mc ms : Nat} {y : MethodName} {bytes : ByteArray} {ret : Option FieldType} {hh : List (Nat × Nat × Nat × Nat)} {Ts ws ws' : List Cond} {rm : Room} (n : Nat) (ht : ∀ w ∈ Ts, w.before args s = true) (hT : GoodIn Ts (wsV own index C y ws)) (hw : ws = Cond.codeWith y bytes maxL ret hh :: ws') (hrc : rm.cells = mc) (hrs : rm.slots = ms)
    (hd : y.cls = C ∧ y.cls ≠ "java/lang/invoke/MethodHandle" ∧ y.cls ≠ "java/lang/invoke/VarHandle" ∧ (parseMethodDescriptor y.desc).map (fun d => d.parameters.length) = some n) (hR : rm.frames + 1 ≤ R.frames ∧ 8 + (maxL + 11) + rm.locals ≤ R.locals) :
    vx_CVW R s args own C index y bytes maxL ret hh ws rm mc ms n := by
  obtain ⟨hC, hd⟩ := hd
  subst hC
  have ok : ∀ w ∈ wsV own index y.cls y ws, w.before args s = true := fun w h => ht w (hT w h).1
  have hG : GoodIn Ts ws := fun w h => hT w (by unfold wsV; exact List.mem_append_right _ h)
  have hc : Cond.codeWith y bytes maxL ret hh ∈ ws := by rw [hw]; exact List.mem_cons_self
  refine ⟨⟨hrc, hrs, hR.1, hR.2, pay_in ht hG, hc⟩, ht _ (hG _ hc).1, ok _ (by simp [wsV]), ⟨hd.1, hd.2.1⟩, fun sig h => ?_, ok _ (by simp [wsV]), ok _ (by simp [wsV]), ok _ (by simp [wsV])⟩
  have h2 := hd.2.2
  rw [h] at h2
  exact (Option.some.inj h2).symm
theorem vx_runVW {y : MethodName} {bytes cc : ByteArray} {maxL nL mc ms n index : Nat} {ret : Option FieldType} {hh : List (Nat × Nat × Nat × Nat)} {ws : List Cond} {rm : Room} {Pc : Array Value → State → Prop} {Qc : Array Value → State → Outcome → State → Prop} {free : Addr → Prop} {Ts : List Cond} {own C : String} {b : Addr} {As rest : List Value} {g : JFrame}
    (S : CallFix p m c cc nL s args Ts own) (hM : Met l y ws rm Pc Qc mc ms free) (cw : vx_CVW R s args own C index y bytes maxL ret hh ws rm mc ms n) (hp : PreV s H C b Pc As)
    (hg : g.method = m) (hn : As.length = n) (hsize : g.locals.size = nL) (hstack : g.stack = As.reverse ++ .ref b :: rest) (hW : 2 * g.monitorRoom + (rest.map fun v => v.category).sum ≤ 8) (hdg : decode cc g.pc = .ok (.invokevirtual index, 3)) (hf : cells + mc ≤ R.cells ∧ slots + ms ≤ R.slots) :
    va_Run p l e R s m args below meth c H locs cells slots mc ms g rest (Qc (Value.ref b :: As).toArray) free := by
  obtain ⟨⟨hrc, hrs, hfr, hlo, hws, hcw⟩, hcode, hini, hy, hlen, hl, hin, hse⟩ := cw
  have hK : Back l R p e below s args y 3 8 (PreOf R mc ms Pc) (PostOf Qc mc ms free) := va_backW (hh := hh) (bytes := bytes) (maxL := maxL) (ret := ret) hM hp.1 hrc hrs hfr hlo hws hcw (fun a' U hW => word_at hW (Or.inl (by first | rfl | simp [Cond.onTables, Cond.keeps, Cond.steady])) hini)
  obtain ⟨hx, hb, hml, ho, -⟩ := S
  obtain ⟨-, ⟨cellB, hcB, hoB, hclB⟩, hPc⟩ := hp
  intro T hT X
  obtain ⟨v, vm₁, ⟨U', l2, c2, s2⟩, hW₁, X', ⟨g', mk, t, L, e1, e2, hq, h1, hL, h2, h3⟩, st⟩ := vx_callVW X hx (C := C) (hh := hh) (bytes := bytes) (maxL := maxL) (ret := ret) ho hl hin hse hcode hy hK (by rw [hT]; exact hcB) hoB hclB hg (hsize.trans hml.symm) (argsL := As) (rest := rest) (fun sig h => hn.trans (hlen sig h)) hstack hW (by rw [hb]; exact hdg)
    (fun vm₁ hW₁ => ⟨hf.1, hf.2, hPc (T.setVm vm₁) hT hW₁⟩)
  dsimp only [Pt.U, Pt.locs, Pt.cells, Pt.slots] at X' e1 e2 h1 h2 h3 st
  subst h1; subst h2; subst h3
  exact ⟨v, (T.setVm vm₁).calling g' mk (Value.ref b :: As).toArray, t, U', L, hT, X', hL, e1, e2, hq, st⟩
section
variable {y : MethodName} {bytes cc : ByteArray} {maxL nL mc ms n index : Nat} {ret : Option FieldType} {ws : List Cond} {rm : Room} {Pc : Array Value → State → Prop} {Qc : Array Value → State → Outcome → State → Prop} {XC : String → State → State → Prop} {free : Addr → Prop} {Ts : List Cond} {own C : String} {b : Addr} {As rest : List Value} {g : JFrame}
theorem vx_runVX {hh : List (Nat × Nat × Nat × Nat)} (S : CallFix p m c cc nL s args Ts own) (hM : vx_Met l y ws rm Pc Qc XC mc ms free) (cw : vx_CVW R s args own C index y bytes maxL ret hh ws rm mc ms n) (hp : PreV s H C b Pc As)
    (hg : g.method = m) (hn : As.length = n) (hsize : g.locals.size = nL) (hstack : g.stack = As.reverse ++ .ref b :: rest) (hW : 2 * g.monitorRoom + (rest.map fun v => v.category).sum ≤ 8) (hdg : decode cc g.pc = .ok (.invokevirtual index, 3)) (hf : cells + mc ≤ R.cells ∧ slots + ms ≤ R.slots) :
    vx_Run p l e R s m args below meth c H locs cells slots mc ms g rest (Qc (Value.ref b :: As).toArray) XC free := by
  obtain ⟨⟨hrc, hrs, hfr, hlo, hws, hcw⟩, hcode, hini, hy, hlen, hl, hin, hse⟩ := cw
  have hK : vx_Back l R p e below s args y 3 8 (PreOf R mc ms Pc) (PostOf Qc mc ms free) (vx_Post XC mc ms free) := vx_backW (hh := hh) (bytes := bytes) (maxL := maxL) (ret := ret) hM hp.1 hrc hrs hfr hlo hws hcw (fun a' U hW => word_at hW (Or.inl (by first | rfl | simp [Cond.onTables, Cond.keeps, Cond.steady])) hini)
  obtain ⟨hx, hb, hml, ho, -⟩ := S
  obtain ⟨-, ⟨cellB, hcB, hoB, hclB⟩, hPc⟩ := hp
  intro T hT X
  rcases vx_callVX X hx (C := C) (hh := hh) (bytes := bytes) (maxL := maxL) (ret := ret) ho hl hin hse hcode hy hK (by rw [hT]; exact hcB) hoB hclB hg (hsize.trans hml.symm) (argsL := As) (rest := rest) (fun sig h => hn.trans (hlen sig h)) hstack hW (by rw [hb]; exact hdg)
    (fun vm₁ hW₁ => ⟨hf.1, hf.2, hPc (T.setVm vm₁) hT hW₁⟩) with ⟨v, vm₁, ⟨U', l2, c2, s2⟩, hW₁, X', ⟨g', mk, t, L, e1, e2, hq, h1, hL, h2, h3⟩, st⟩ | ⟨q, vm₁, ⟨U', l2, c2, s2⟩, hW₁, X', ⟨g', mk, t, L, E, ce, e1, e2, hq, hce, hcv, hcl, h1, hL, h2, h3⟩, st⟩
  · dsimp only [Pt.U, Pt.locs, Pt.cells, Pt.slots] at X' e1 e2 h1 h2 h3 st
    subst h1; subst h2; subst h3
    exact Or.inl ⟨v, (T.setVm vm₁).calling g' mk (Value.ref b :: As).toArray, t, U', L, hT, X', hL, e1, e2, hq, st⟩
  · dsimp only [Pt.U, Pt.locs, Pt.cells, Pt.slots] at X' e1 e2 h1 h2 h3 st hcl
    subst h1; subst h2; subst h3
    exact Or.inr ⟨q, (T.setVm vm₁).calling g' mk (Value.ref b :: As).toArray, t, U', L, E, ce, hT, X', hL, e1, e2, hq, hce, hcv, vx_cls hW₁ hcl, st⟩
theorem vx_runSX {hh : List (Nat × Nat × Nat × Nat)} (S : CallFix p m c cc nL s args Ts own) (hM : vx_Met l y ws rm Pc Qc XC mc ms free) (cw : vx_CSW R s args own index y bytes maxL ret hh ws rm mc ms n) (hp : PreS s H Pc As)
    (hg : g.method = m) (hn : As.length = n) (hsize : g.locals.size = nL) (hstack : g.stack = As.reverse ++ rest) (hW : 2 * g.monitorRoom + (rest.map fun v => v.category).sum ≤ 8) (hdg : decode cc g.pc = .ok (.invokestatic index, 3)) (hf : cells + mc ≤ R.cells ∧ slots + ms ≤ R.slots) :
    vx_Run p l e R s m args below meth c H locs cells slots mc ms g rest (Qc As.toArray) XC free := by
  obtain ⟨⟨hrc, hrs, hfr, hlo, hws, hcw⟩, hcode, hini, hy, hlen, hl, hstt⟩ := cw
  have hK : vx_Back l R p e below s args y 3 8 (PreOf R mc ms Pc) (PostOf Qc mc ms free) (vx_Post XC mc ms free) := vx_backW (hh := hh) (bytes := bytes) (maxL := maxL) (ret := ret) hM hp.1 hrc hrs hfr hlo hws hcw (fun a' U hW => word_at hW (Or.inl (by first | rfl | simp [Cond.onTables, Cond.keeps, Cond.steady])) hini)
  obtain ⟨hx, hb, hml, ho, -⟩ := S
  intro T hT X
  rcases vx_callSX X hx (hh := hh) (bytes := bytes) (maxL := maxL) (ret := ret) ho hl hstt hini hcode hy hK hg (hsize.trans hml.symm) (argsL := As) (rest := rest) (fun sig h => hn.trans (hlen sig h)) hstack hW (by rw [hb]; exact hdg)
    (fun vm₁ hW₁ => ⟨hf.1, hf.2, hp.2 (T.setVm vm₁) hT hW₁⟩) with ⟨v, vm₁, ⟨U', l2, c2, s2⟩, hW₁, X', ⟨g', mk, t, L, e1, e2, hq, h1, hL, h2, h3⟩, st⟩ | ⟨q, vm₁, ⟨U', l2, c2, s2⟩, hW₁, X', ⟨g', mk, t, L, E, ce, e1, e2, hq, hce, hcv, hcl, h1, hL, h2, h3⟩, st⟩
  · dsimp only [Pt.U, Pt.locs, Pt.cells, Pt.slots] at X' e1 e2 h1 h2 h3 st
    subst h1; subst h2; subst h3
    exact Or.inl ⟨v, (T.setVm vm₁).calling g' mk As.toArray, t, U', L, hT, X', hL, e1, e2, hq, st⟩
  · dsimp only [Pt.U, Pt.locs, Pt.cells, Pt.slots] at X' e1 e2 h1 h2 h3 st hcl
    subst h1; subst h2; subst h3
    exact Or.inr ⟨q, (T.setVm vm₁).calling g' mk As.toArray, t, U', L, E, ce, hT, X', hL, e1, e2, hq, hce, hcv, vx_cls hW₁ hcl, st⟩
end
end VXH
theorem vx_ofWH {l : Launch} {y : MethodName} {ws ws' : List Cond} {rm : Room} {Pc : Array Value → State → Prop} {Qc : Array Value → State → Outcome → State → Prop} {XC : String → State → State → Prop} {mc ms : Nat} {free : Addr → Prop} {cc : ByteArray} {maxL : Nat} {ret : Option FieldType} {hh : List (Nat × Nat × Nat × Nat)}
    (hy : plainName y.cls = true) (hw : ws = Cond.codeWith y cc maxL ret hh :: ws')
    (body : ∀ p e s m args below meth c s₁, BodyLoose p l y (headSpec ws rm) cc maxL ret e s m args below meth c s₁ → c.maxLocals = maxL → Pc args s →
      W p l e (headSpec ws rm).room s m args below meth c s.heap [] 0 0 (vx_MQ below Qc XC args s mc ms free) (entryFrame m args maxL)) : vx_Met l y ws rm Pc Qc XC mc ms free := by
  refine MetFree.of_bodyS (code := cc) (maxLocals := maxL) (ret := ret) hy ?_ ?_
  · intro args s m h hn
    obtain ⟨m9, meth, c, hn9, h1, h2, h3, h4, -, h5, h6, -⟩ := Cond.codeWith_spec (atoms_spec (ws := ws) h _ (by rw [hw]; exact List.mem_cons_self))
    cases hn.symm.trans hn9
    exact ⟨meth, c, h1, h2, h3, h4, h5, h6⟩
  · intro p e s m args below meth c s₁ B hml hP _
    have hh0 : s₁.heap = s.heap := by rw [B.state]; rfl
    obtain ⟨t, a1, o, b1, b2, b3⟩ := body p e s m args below meth c s₁ B hml hP s₁ hh0 (Stand.of_body B)
    exact ⟨t, o, a1, b1, b2, b3⟩
/-! ===== END ===== -/

/-! ===== BEGIN printed: names, fields, word lists, decode rows ===== -/
end
section
def RX0 : String := "PumiceSledge$Boat"
def TX0 : u_T := fun k => match k with
  | 0 => ("PumiceSledge$Boat", "mostLoad", "I", false)
  | 1 => ("PumiceSledge$Boat", "fore", "I", false)
  | _ => ("PumiceSledge$Boat", "aft", "I", false)
def tyX0 : Nat → FieldType := fun k => match k with
  | 0 => .int
  | 1 => .int
  | _ => .int
abbrev wsX00 : List Cond := u_ws RX0 TX0 3
theorem nmX0 : ∀ a, a < 3 → ∀ b, b < 3 → a ≠ b → (TX0 a).2.1 ≠ (TX0 b).2.1 := by decide +kernel
theorem tyX0_ok : ∀ k, k < 3 → parseFieldDescriptor (TX0 k).2.2.1 = some (tyX0 k) := by decide +kernel
abbrev cX0_init : ByteArray := prog_2_method_1_code
def yX0_init : MethodName := ⟨RX0, "<init>", "()V"⟩
abbrev cX0_trim : ByteArray := prog_2_method_2_code
def yX0_trim : MethodName := ⟨RX0, "trim", "()I"⟩
abbrev cX0_depth : ByteArray := prog_2_method_3_code
def yX0_depth : MethodName := ⟨RX0, "depth", "()I"⟩
abbrev cX0_canSail : ByteArray := prog_2_method_4_code
def yX0_canSail : MethodName := ⟨RX0, "canSail", "()Z"⟩
abbrev cX0_room : ByteArray := prog_2_method_5_code
def yX0_room : MethodName := ⟨RX0, "room", "()I"⟩
abbrev cX0_worth : ByteArray := prog_2_method_6_code
def yX0_worth : MethodName := ⟨RX0, "worth", "()I"⟩
def RX1 : String := "PumiceSledge$Shore"
def TX1 : u_T := fun k => match k with
  | 0 => ("PumiceSledge$Shore", "sacks", "[I", true)
  | _ => ("PumiceSledge$Shore", "lost", "I", false)
def tyX1 : Nat → FieldType := fun k => match k with
  | 0 => .array .int
  | _ => .int
abbrev wsX10 : List Cond := u_ws RX1 TX1 2
theorem nmX1 : ∀ a, a < 2 → ∀ b, b < 2 → a ≠ b → (TX1 a).2.1 ≠ (TX1 b).2.1 := by decide +kernel
theorem tyX1_ok : ∀ k, k < 2 → parseFieldDescriptor (TX1 k).2.2.1 = some (tyX1 k) := by decide +kernel
abbrev cX1_init : ByteArray := prog_3_method_1_code
def yX1_init : MethodName := ⟨RX1, "<init>", "()V"⟩
abbrev cX1_allSacks : ByteArray := prog_3_method_2_code
def yX1_allSacks : MethodName := ⟨RX1, "allSacks", "()I"⟩
abbrev cX1_become : ByteArray := prog_3_method_3_code
def yX1_become : MethodName := ⟨RX1, "become", "(LPumiceSledge$Shore;)V"⟩
def RX2 : String := "PumiceSledge$Sledge"
def TX2 : u_T := fun k => match k with
  | 0 => ("PumiceSledge$Sledge", "holds", "I", false)
  | 1 => ("PumiceSledge$Sledge", "weights", "[I", true)
  | 2 => ("PumiceSledge$Sledge", "aboard", "I", false)
  | 3 => ("PumiceSledge$Sledge", "height", "I", false)
  | _ => ("PumiceSledge$Sledge", "course", "I", false)
def tyX2 : Nat → FieldType := fun k => match k with
  | 0 => .int
  | 1 => .array .int
  | 2 => .int
  | 3 => .int
  | _ => .int
abbrev wsX20 : List Cond := u_ws RX2 TX2 5
theorem nmX2 : ∀ a, a < 5 → ∀ b, b < 5 → a ≠ b → (TX2 a).2.1 ≠ (TX2 b).2.1 := by decide +kernel
theorem tyX2_ok : ∀ k, k < 5 → parseFieldDescriptor (TX2 k).2.2.1 = some (tyX2 k) := by decide +kernel
abbrev cX2_init : ByteArray := prog_4_method_1_code
def yX2_init : MethodName := ⟨RX2, "<init>", "()V"⟩
abbrev cX2_isFull : ByteArray := prog_4_method_2_code
def yX2_isFull : MethodName := ⟨RX2, "isFull", "()Z"⟩
abbrev cX2_load : ByteArray := prog_4_method_3_code
def yX2_load : MethodName := ⟨RX2, "load", "(I)V"⟩
abbrev cX2_weightAboard : ByteArray := prog_4_method_4_code
def yX2_weightAboard : MethodName := ⟨RX2, "weightAboard", "()I"⟩
abbrev cX2_lastKind : ByteArray := prog_4_method_5_code
def yX2_lastKind : MethodName := ⟨RX2, "lastKind", "()I"⟩
abbrev cX2_become : ByteArray := prog_4_method_6_code
def yX2_become : MethodName := ⟨RX2, "become", "(LPumiceSledge$Sledge;)V"⟩
abbrev cX2_travel : ByteArray := prog_4_method_7_code
def yX2_travel : MethodName := ⟨RX2, "travel", "(ILPumiceSledge$Shore;)V"⟩
abbrev cX2_comeDown : ByteArray := prog_4_method_8_code
def yX2_comeDown : MethodName := ⟨RX2, "comeDown", "(ILPumiceSledge$Shore;)V"⟩
abbrev cX2_unload : ByteArray := prog_4_method_9_code
def yX2_unload : MethodName := ⟨RX2, "unload", "(LPumiceSledge$Shore;)V"⟩
abbrev cX2_comeUp : ByteArray := prog_4_method_10_code
def yX2_comeUp : MethodName := ⟨RX2, "comeUp", "()V"⟩
def RX3 : String := "PumiceSledge"
def TX3 : u_T := fun k => match k with
  | 0 => ("PumiceSledge", "stones", "[I", true)
  | 1 => ("PumiceSledge", "stoneWeights", "[I", true)
  | 2 => ("PumiceSledge", "gusts", "[I", true)
  | 3 => ("PumiceSledge", "sledges", "[LPumiceSledge$Sledge;", true)
  | 4 => ("PumiceSledge", "sledgeCount", "I", false)
  | 5 => ("PumiceSledge", "boats", "[LPumiceSledge$Boat;", true)
  | 6 => ("PumiceSledge", "boatCount", "I", false)
  | 7 => ("PumiceSledge", "shore", "LPumiceSledge$Shore;", true)
  | 8 => ("PumiceSledge", "hour", "I", false)
  | 9 => ("PumiceSledge", "coins", "I", false)
  | 10 => ("PumiceSledge", "trial", "LPumiceSledge$Sledge;", true)
  | _ => ("PumiceSledge", "trialShore", "LPumiceSledge$Shore;", true)
def tyX3 : Nat → FieldType := fun k => match k with
  | 0 => .array .int
  | 1 => .array .int
  | 2 => .array .int
  | 3 => .array (.object "PumiceSledge$Sledge")
  | 4 => .int
  | 5 => .array (.object "PumiceSledge$Boat")
  | 6 => .int
  | 7 => .object "PumiceSledge$Shore"
  | 8 => .int
  | 9 => .int
  | 10 => .object "PumiceSledge$Sledge"
  | _ => .object "PumiceSledge$Shore"
abbrev wsX30 : List Cond := u_ws RX3 TX3 12
theorem nmX3 : ∀ a, a < 12 → ∀ b, b < 12 → a ≠ b → (TX3 a).2.1 ≠ (TX3 b).2.1 := by decide +kernel
theorem tyX3_ok : ∀ k, k < 12 → parseFieldDescriptor (TX3 k).2.2.1 = some (tyX3 k) := by decide +kernel
abbrev cX3_init : ByteArray := prog_1_method_1_code
def yX3_init : MethodName := ⟨RX3, "<init>", "()V"⟩
abbrev cX3_set : ByteArray := prog_1_method_2_code
def yX3_set : MethodName := ⟨RX3, "set", "(III)I"⟩
abbrev cX3_setGust : ByteArray := prog_1_method_3_code
def yX3_setGust : MethodName := ⟨RX3, "setGust", "(II)I"⟩
abbrev cX3_build : ByteArray := prog_1_method_4_code
def yX3_build : MethodName := ⟨RX3, "build", "(I)I"⟩
abbrev cX3_fill : ByteArray := prog_1_method_5_code
def yX3_fill : MethodName := ⟨RX3, "fill", "(II)I"⟩
abbrev cX3_go : ByteArray := prog_1_method_6_code
def yX3_go : MethodName := ⟨RX3, "go", "(I)I"⟩
abbrev cX3_launch : ByteArray := prog_1_method_7_code
def yX3_launch : MethodName := ⟨RX3, "launch", "(I)I"⟩
abbrev cX3_stow : ByteArray := prog_1_method_8_code
def yX3_stow : MethodName := ⟨RX3, "stow", "(IIZ)I"⟩
abbrev cX3_sail : ByteArray := prog_1_method_9_code
def yX3_sail : MethodName := ⟨RX3, "sail", "(I)I"⟩
abbrev cX3_layer : ByteArray := prog_1_method_10_code
def yX3_layer : MethodName := ⟨RX3, "layer", "(II)I"⟩
abbrev cX3_told : ByteArray := prog_1_method_11_code
def yX3_told : MethodName := ⟨RX3, "told", "(II)I"⟩
abbrev cX3_boat : ByteArray := prog_1_method_12_code
def yX3_boat : MethodName := ⟨RX3, "boat", "(II)I"⟩
abbrev cX3_beach : ByteArray := prog_1_method_13_code
def yX3_beach : MethodName := ⟨RX3, "beach", "(I)I"⟩
abbrev cX3_count : ByteArray := prog_1_method_14_code
def yX3_count : MethodName := ⟨RX3, "count", "(I)I"⟩
abbrev cX3_pass : ByteArray := prog_1_method_15_code
def yX3_pass : MethodName := ⟨RX3, "pass", "(I)I"⟩
abbrev cX3_back : ByteArray := prog_1_method_16_code
def yX3_back : MethodName := ⟨RX3, "back", "(I)I"⟩
abbrev cX3_arrives : ByteArray := prog_1_method_17_code
def yX3_arrives : MethodName := ⟨RX3, "arrives", "(I)I"⟩
abbrev cX3_advise : ByteArray := prog_1_method_18_code
def yX3_advise : MethodName := ⟨RX3, "advise", "(II)I"⟩
abbrev cX3_foresee : ByteArray := prog_1_method_19_code
def yX3_foresee : MethodName := ⟨RX3, "foresee", "(II)I"⟩
abbrev cX3_mean : ByteArray := prog_1_method_20_code
def yX3_mean : MethodName := ⟨RX3, "mean", "()D"⟩
abbrev cX3_digest : ByteArray := prog_1_method_21_code
def yX3_digest : MethodName := ⟨RX3, "digest", "()J"⟩
abbrev cX3_withLayer : ByteArray := prog_1_method_22_code
def yX3_withLayer : MethodName := ⟨RX3, "withLayer", "(JI)J"⟩
abbrev cX3_withSledge : ByteArray := prog_1_method_23_code
def yX3_withSledge : MethodName := ⟨RX3, "withSledge", "(JI)J"⟩
abbrev cX3_withBoat : ByteArray := prog_1_method_24_code
def yX3_withBoat : MethodName := ⟨RX3, "withBoat", "(JI)J"⟩
abbrev cX3_mixed : ByteArray := prog_1_method_25_code
def yX3_mixed : MethodName := ⟨RX3, "mixed", "(JI)J"⟩
abbrev cX3_passOneHour : ByteArray := prog_1_method_26_code
def yX3_passOneHour : MethodName := ⟨RX3, "passOneHour", "()V"⟩
abbrev cX3_aboardBehind : ByteArray := prog_1_method_27_code
def yX3_aboardBehind : MethodName := ⟨RX3, "aboardBehind", "(ILPumiceSledge$Sledge;)I"⟩
abbrev cX3_gustAt : ByteArray := prog_1_method_28_code
def yX3_gustAt : MethodName := ⟨RX3, "gustAt", "(I)I"⟩
abbrev cX3_sacksAboard : ByteArray := prog_1_method_29_code
def yX3_sacksAboard : MethodName := ⟨RX3, "sacksAboard", "()I"⟩
abbrev cX3_allStones : ByteArray := prog_1_method_30_code
def yX3_allStones : MethodName := ⟨RX3, "allStones", "()I"⟩
abbrev cX3_sackWeight : ByteArray := prog_1_method_31_code
def yX3_sackWeight : MethodName := ⟨RX3, "sackWeight", "(I)I"⟩
abbrev cX3_isSledge : ByteArray := prog_1_method_32_code
def yX3_isSledge : MethodName := ⟨RX3, "isSledge", "(I)Z"⟩
abbrev cX3_isBoat : ByteArray := prog_1_method_33_code
def yX3_isBoat : MethodName := ⟨RX3, "isBoat", "(I)Z"⟩
abbrev cX3_isLayer : ByteArray := prog_1_method_34_code
def yX3_isLayer : MethodName := ⟨RX3, "isLayer", "(I)Z"⟩
abbrev cX3_isKind : ByteArray := prog_1_method_35_code
def yX3_isKind : MethodName := ⟨RX3, "isKind", "(I)Z"⟩
abbrev cX3_isWithin : ByteArray := prog_1_method_36_code
def yX3_isWithin : MethodName := ⟨RX3, "isWithin", "(III)Z"⟩
abbrev cX3_kindOf : ByteArray := prog_1_method_37_code
def yX3_kindOf : MethodName := ⟨RX3, "kindOf", "(I)I"⟩
abbrev cX3_stowedWeight : ByteArray := prog_1_method_38_code
def yX3_stowedWeight : MethodName := ⟨RX3, "stowedWeight", "(I)I"⟩
abbrev cX3_depthOf : ByteArray := prog_1_method_39_code
def yX3_depthOf : MethodName := ⟨RX3, "depthOf", "(II)I"⟩
def RX4 : String := "PumiceSledgeModel"
def TX4 : u_T := fun k => match k with
  | 0 => ("PumiceSledgeModel", "thrown", "I", false)
  | 1 => ("PumiceSledgeModel", "sledges", "I", false)
  | 2 => ("PumiceSledgeModel", "boats", "I", false)
  | 3 => ("PumiceSledgeModel", "stones", "[I", true)
  | 4 => ("PumiceSledgeModel", "weights", "[I", true)
  | 5 => ("PumiceSledgeModel", "gusts", "[I", true)
  | 6 => ("PumiceSledgeModel", "slope", "[I", true)
  | 7 => ("PumiceSledgeModel", "fleet", "[I", true)
  | _ => ("PumiceSledgeModel", "numbers", "[I", true)
def tyX4 : Nat → FieldType := fun k => match k with
  | 0 => .int
  | 1 => .int
  | 2 => .int
  | 3 => .array .int
  | 4 => .array .int
  | 5 => .array .int
  | 6 => .array .int
  | 7 => .array .int
  | _ => .array .int
abbrev wsX40 : List Cond := u_ws RX4 TX4 9
theorem nmX4 : ∀ a, a < 9 → ∀ b, b < 9 → a ≠ b → (TX4 a).2.1 ≠ (TX4 b).2.1 := by decide +kernel
theorem tyX4_ok : ∀ k, k < 9 → parseFieldDescriptor (TX4 k).2.2.1 = some (tyX4 k) := by decide +kernel
abbrev cX4_init : ByteArray := prog_6_method_1_code
def yX4_init : MethodName := ⟨RX4, "<init>", "()V"⟩
abbrev cX4_thrown : ByteArray := prog_6_method_2_code
def yX4_thrown : MethodName := ⟨RX4, "thrown", "()I"⟩
abbrev cX4_fail : ByteArray := prog_6_method_3_code
def yX4_fail : MethodName := ⟨RX4, "fail", "(I)I"⟩
abbrev cX4_isIn : ByteArray := prog_6_method_4_code
def yX4_isIn : MethodName := ⟨RX4, "isIn", "(III)Z"⟩
abbrev cX4_isSledge : ByteArray := prog_6_method_5_code
def yX4_isSledge : MethodName := ⟨RX4, "isSledge", "(I)Z"⟩
abbrev cX4_isBoat : ByteArray := prog_6_method_6_code
def yX4_isBoat : MethodName := ⟨RX4, "isBoat", "(I)Z"⟩
abbrev cX4_isLayer : ByteArray := prog_6_method_7_code
def yX4_isLayer : MethodName := ⟨RX4, "isLayer", "(I)Z"⟩
abbrev cX4_sl : ByteArray := prog_6_method_8_code
def yX4_sl : MethodName := ⟨RX4, "sl", "(II)I"⟩
abbrev cX4_put : ByteArray := prog_6_method_9_code
def yX4_put : MethodName := ⟨RX4, "put", "(III)V"⟩
abbrev cX4_bo : ByteArray := prog_6_method_10_code
def yX4_bo : MethodName := ⟨RX4, "bo", "(II)I"⟩
abbrev cX4_set : ByteArray := prog_6_method_11_code
def yX4_set : MethodName := ⟨RX4, "set", "(III)I"⟩
abbrev cX4_setGust : ByteArray := prog_6_method_12_code
def yX4_setGust : MethodName := ⟨RX4, "setGust", "(II)I"⟩
abbrev cX4_build : ByteArray := prog_6_method_13_code
def yX4_build : MethodName := ⟨RX4, "build", "(I)I"⟩
abbrev cX4_kind : ByteArray := prog_6_method_14_code
def yX4_kind : MethodName := ⟨RX4, "kind", "(I)I"⟩
abbrev cX4_fill : ByteArray := prog_6_method_15_code
def yX4_fill : MethodName := ⟨RX4, "fill", "(II)I"⟩
abbrev cX4_go : ByteArray := prog_6_method_16_code
def yX4_go : MethodName := ⟨RX4, "go", "(I)I"⟩
abbrev cX4_launch : ByteArray := prog_6_method_17_code
def yX4_launch : MethodName := ⟨RX4, "launch", "(I)I"⟩
abbrev cX4_all : ByteArray := prog_6_method_18_code
def yX4_all : MethodName := ⟨RX4, "all", "(I)I"⟩
abbrev cX4_stowed : ByteArray := prog_6_method_19_code
def yX4_stowed : MethodName := ⟨RX4, "stowed", "(I)I"⟩
abbrev cX4_depth : ByteArray := prog_6_method_20_code
def yX4_depth : MethodName := ⟨RX4, "depth", "(II)I"⟩
abbrev cX4_canSail : ByteArray := prog_6_method_21_code
def yX4_canSail : MethodName := ⟨RX4, "canSail", "(I)Z"⟩
abbrev cX4_stow : ByteArray := prog_6_method_22_code
def yX4_stow : MethodName := ⟨RX4, "stow", "(IIZ)I"⟩
abbrev cX4_sail : ByteArray := prog_6_method_23_code
def yX4_sail : MethodName := ⟨RX4, "sail", "(I)I"⟩
abbrev cX4_layerTold : ByteArray := prog_6_method_24_code
def yX4_layerTold : MethodName := ⟨RX4, "layerTold", "(II)I"⟩
abbrev cX4_layer : ByteArray := prog_6_method_25_code
def yX4_layer : MethodName := ⟨RX4, "layer", "(II)I"⟩
abbrev cX4_sledgeTold : ByteArray := prog_6_method_26_code
def yX4_sledgeTold : MethodName := ⟨RX4, "sledgeTold", "(II)I"⟩
abbrev cX4_told : ByteArray := prog_6_method_27_code
def yX4_told : MethodName := ⟨RX4, "told", "(II)I"⟩
abbrev cX4_boatTold : ByteArray := prog_6_method_28_code
def yX4_boatTold : MethodName := ⟨RX4, "boatTold", "(II)I"⟩
abbrev cX4_boat : ByteArray := prog_6_method_29_code
def yX4_boat : MethodName := ⟨RX4, "boat", "(II)I"⟩
abbrev cX4_beach : ByteArray := prog_6_method_30_code
def yX4_beach : MethodName := ⟨RX4, "beach", "(I)I"⟩
abbrev cX4_gust : ByteArray := prog_6_method_31_code
def yX4_gust : MethodName := ⟨RX4, "gust", "()I"⟩
abbrev cX4_aboard : ByteArray := prog_6_method_32_code
def yX4_aboard : MethodName := ⟨RX4, "aboard", "()I"⟩
abbrev cX4_ashore : ByteArray := prog_6_method_33_code
def yX4_ashore : MethodName := ⟨RX4, "ashore", "()I"⟩
abbrev cX4_counted : ByteArray := prog_6_method_34_code
def yX4_counted : MethodName := ⟨RX4, "counted", "(I)I"⟩
abbrev cX4_count : ByteArray := prog_6_method_35_code
def yX4_count : MethodName := ⟨RX4, "count", "(I)I"⟩
abbrev cX4_slide : ByteArray := prog_6_method_36_code
def yX4_slide : MethodName := ⟨RX4, "slide", "(I)V"⟩
abbrev cX4_climb : ByteArray := prog_6_method_37_code
def yX4_climb : MethodName := ⟨RX4, "climb", "(I)V"⟩
abbrev cX4_unload : ByteArray := prog_6_method_38_code
def yX4_unload : MethodName := ⟨RX4, "unload", "(I)V"⟩
abbrev cX4_hourOn : ByteArray := prog_6_method_39_code
def yX4_hourOn : MethodName := ⟨RX4, "hourOn", "()V"⟩
abbrev cX4_hoursOn : ByteArray := prog_6_method_40_code
def yX4_hoursOn : MethodName := ⟨RX4, "hoursOn", "(I)I"⟩
abbrev cX4_pass : ByteArray := prog_6_method_41_code
def yX4_pass : MethodName := ⟨RX4, "pass", "(I)I"⟩
abbrev cX4_kept : ByteArray := prog_6_method_42_code
def yX4_kept : MethodName := ⟨RX4, "kept", "()[[I"⟩
abbrev cX4_bringBack : ByteArray := prog_6_method_43_code
def yX4_bringBack : MethodName := ⟨RX4, "bringBack", "([[I)V"⟩
abbrev cX4_back : ByteArray := prog_6_method_44_code
def yX4_back : MethodName := ⟨RX4, "back", "(I)I"⟩
abbrev cX4_arrives : ByteArray := prog_6_method_45_code
def yX4_arrives : MethodName := ⟨RX4, "arrives", "(I)I"⟩
abbrev cX4_advise : ByteArray := prog_6_method_46_code
def yX4_advise : MethodName := ⟨RX4, "advise", "(II)I"⟩
abbrev cX4_foresee : ByteArray := prog_6_method_47_code
def yX4_foresee : MethodName := ⟨RX4, "foresee", "(II)I"⟩
abbrev cX4_mean : ByteArray := prog_6_method_48_code
def yX4_mean : MethodName := ⟨RX4, "mean", "()D"⟩
abbrev cX4_digest : ByteArray := prog_6_method_49_code
def yX4_digest : MethodName := ⟨RX4, "digest", "()J"⟩
def RJx8e188 : String := "java/lang/Cloneable"
def TJx8e188 : u_T := fun k => match k with
  | _ => ("", "", "", false)
def tyJx8e188 : Nat → FieldType := fun k => match k with
  | _ => .int
abbrev wsJx8e1880 : List Cond := u_ws RJx8e188 TJx8e188 0
theorem nmJx8e188 : ∀ a, a < 0 → ∀ b, b < 0 → a ≠ b → (TJx8e188 a).2.1 ≠ (TJx8e188 b).2.1 := by decide +kernel
theorem tyJx8e188_ok : ∀ k, k < 0 → parseFieldDescriptor (TJx8e188 k).2.2.1 = some (tyJx8e188 k) := by decide +kernel
def RJ9 : String := "java/lang/Math"
def TJ9 : u_T := fun k => match k with
  | _ => ("", "", "", false)
def tyJ9 : Nat → FieldType := fun k => match k with
  | _ => .int
abbrev wsJ90 : List Cond := u_ws RJ9 TJ9 0
theorem nmJ9 : ∀ a, a < 0 → ∀ b, b < 0 → a ≠ b → (TJ9 a).2.1 ≠ (TJ9 b).2.1 := by decide +kernel
theorem tyJ9_ok : ∀ k, k < 0 → parseFieldDescriptor (TJ9 k).2.2.1 = some (tyJ9 k) := by decide +kernel
abbrev cJ9_floorMod_7cf53 : ByteArray := prog_12_method_50_code
def yJ9_floorMod_7cf53 : MethodName := ⟨RJ9, "floorMod", "(II)I"⟩
abbrev cJ9_abs_0f7a4 : ByteArray := prog_12_method_59_code
def yJ9_abs_0f7a4 : MethodName := ⟨RJ9, "abs", "(I)I"⟩
abbrev cJ9_max_7cf53 : ByteArray := prog_12_method_65_code
def yJ9_max_7cf53 : MethodName := ⟨RJ9, "max", "(II)I"⟩
abbrev cJ9_min_7cf53 : ByteArray := prog_12_method_69_code
def yJ9_min_7cf53 : MethodName := ⟨RJ9, "min", "(II)I"⟩
def RJ0 : String := "java/lang/String"
def TJ0 : u_T := fun k => match k with
  | _ => ("", "", "", false)
def tyJ0 : Nat → FieldType := fun k => match k with
  | _ => .int
abbrev wsJ00 : List Cond := u_ws RJ0 TJ0 0
theorem nmJ0 : ∀ a, a < 0 → ∀ b, b < 0 → a ≠ b → (TJ0 a).2.1 ≠ (TJ0 b).2.1 := by decide +kernel
theorem tyJ0_ok : ∀ k, k < 0 → parseFieldDescriptor (TJ0 k).2.2.1 = some (tyJ0 k) := by decide +kernel
def RJ10 : String := "java/lang/System"
def TJ10 : u_T := fun k => match k with
  | _ => ("", "", "", false)
def tyJ10 : Nat → FieldType := fun k => match k with
  | _ => .int
abbrev wsJ100 : List Cond := u_ws RJ10 TJ10 0
theorem nmJ10 : ∀ a, a < 0 → ∀ b, b < 0 → a ≠ b → (TJ10 a).2.1 ≠ (TJ10 b).2.1 := by decide +kernel
theorem tyJ10_ok : ∀ k, k < 0 → parseFieldDescriptor (TJ10 k).2.2.1 = some (tyJ10 k) := by decide +kernel
def RL : String := "PumiceSledgeLaw"
abbrev cL_set : ByteArray := method_3_code
def yL_set : MethodName := ⟨RL, "set", "(LPumiceSledge;III[J)I"⟩
abbrev cL_setGust : ByteArray := method_4_code
def yL_setGust : MethodName := ⟨RL, "setGust", "(LPumiceSledge;II[J)I"⟩
abbrev cL_build : ByteArray := method_5_code
def yL_build : MethodName := ⟨RL, "build", "(LPumiceSledge;I[J)I"⟩
abbrev cL_fill : ByteArray := method_6_code
def yL_fill : MethodName := ⟨RL, "fill", "(LPumiceSledge;II[J)I"⟩
abbrev cL_go : ByteArray := method_7_code
def yL_go : MethodName := ⟨RL, "go", "(LPumiceSledge;I[J)I"⟩
abbrev cL_launch : ByteArray := method_8_code
def yL_launch : MethodName := ⟨RL, "launch", "(LPumiceSledge;I[J)I"⟩
abbrev cL_stow : ByteArray := method_9_code
def yL_stow : MethodName := ⟨RL, "stow", "(LPumiceSledge;IIZ[J)I"⟩
abbrev cL_sail : ByteArray := method_10_code
def yL_sail : MethodName := ⟨RL, "sail", "(LPumiceSledge;I[J)I"⟩
abbrev cL_layer : ByteArray := method_11_code
def yL_layer : MethodName := ⟨RL, "layer", "(LPumiceSledge;II[J)I"⟩
abbrev cL_told : ByteArray := method_12_code
def yL_told : MethodName := ⟨RL, "told", "(LPumiceSledge;II[J)I"⟩
abbrev cL_boat : ByteArray := method_13_code
def yL_boat : MethodName := ⟨RL, "boat", "(LPumiceSledge;II[J)I"⟩
abbrev cL_beach : ByteArray := method_14_code
def yL_beach : MethodName := ⟨RL, "beach", "(LPumiceSledge;I[J)I"⟩
abbrev cL_count : ByteArray := method_15_code
def yL_count : MethodName := ⟨RL, "count", "(LPumiceSledge;I[J)I"⟩
abbrev cL_pass : ByteArray := method_16_code
def yL_pass : MethodName := ⟨RL, "pass", "(LPumiceSledge;I[J)I"⟩
abbrev cL_back : ByteArray := method_17_code
def yL_back : MethodName := ⟨RL, "back", "(LPumiceSledge;I[J)I"⟩
abbrev cL_arrives : ByteArray := method_18_code
def yL_arrives : MethodName := ⟨RL, "arrives", "(LPumiceSledge;I[J)I"⟩
abbrev cL_advise : ByteArray := method_19_code
def yL_advise : MethodName := ⟨RL, "advise", "(LPumiceSledge;II[J)I"⟩
abbrev cL_foresee : ByteArray := method_20_code
def yL_foresee : MethodName := ⟨RL, "foresee", "(LPumiceSledge;II[J)I"⟩
abbrev cL_law : ByteArray := code
def yL_law : MethodName := ⟨RL, "law", "([I)Z"⟩
def wsX0_init : List Cond := .code yX0_init cX0_init 1 none :: ([.methodLink RX0 1 objectInit, .instanceMethod objectInit, .code objectInit ⟨#[0xb1]⟩ 1 none])
def wsX0_trim : List Cond := .code yX0_trim cX0_trim 1 (some .int) :: ([.fieldLink RX0 7 "PumiceSledge$Boat" "fore" "I", .fieldLink RX0 13 "PumiceSledge$Boat" "aft" "I"] ++ wsX00)
def wsX3_depthOf : List Cond := .code yX3_depthOf cX3_depthOf 2 (some .int) :: ([.methodLink RX3 274 Lib.Math.abs.name, .static Lib.Math.abs.name, .initialized "java/lang/Math", .code Lib.Math.abs.name Lib.Math.abs.code 1 (some .int)])
def wsX0_depth : List Cond := .code yX0_depth cX0_depth 1 (some .int) :: ([.fieldLink RX0 7 "PumiceSledge$Boat" "fore" "I", .fieldLink RX0 13 "PumiceSledge$Boat" "aft" "I", .static yX3_depthOf, .initialized RX3, .code yX3_depthOf cX3_depthOf 2 (some .int), .methodLink RX3 274 Lib.Math.abs.name, .static Lib.Math.abs.name, .initialized "java/lang/Math", .code Lib.Math.abs.name Lib.Math.abs.code 1 (some .int)] ++ wsX00)
def wsX3_isWithin : List Cond := .code yX3_isWithin cX3_isWithin 3 (some .boolean) :: ([])
def wsX0_canSail : List Cond := .code yX0_canSail cX0_canSail 1 (some .boolean) :: ([.methodLink RX0 22 yX0_depth, .instanceMethod yX0_depth, .selects RX0 yX0_depth yX0_depth, .initialized RX0, .code yX0_depth cX0_depth 1 (some .int), .fieldLink RX0 7 "PumiceSledge$Boat" "fore" "I", .fieldLink RX0 13 "PumiceSledge$Boat" "aft" "I", .static yX3_depthOf, .initialized RX3, .code yX3_depthOf cX3_depthOf 2 (some .int), .methodLink RX3 274 Lib.Math.abs.name, .static Lib.Math.abs.name, .initialized "java/lang/Math", .code Lib.Math.abs.name Lib.Math.abs.code 1 (some .int), .methodLink RX0 26 yX0_trim, .instanceMethod yX0_trim, .selects RX0 yX0_trim yX0_trim, .code yX0_trim cX0_trim 1 (some .int), .static yX3_isWithin, .code yX3_isWithin cX3_isWithin 3 (some .boolean)] ++ wsX00)
def wsX0_room : List Cond := .code yX0_room cX0_room 1 (some .int) :: ([.fieldLink RX0 33 "PumiceSledge$Boat" "mostLoad" "I", .fieldLink RX0 7 "PumiceSledge$Boat" "fore" "I", .fieldLink RX0 13 "PumiceSledge$Boat" "aft" "I"] ++ wsX00)
def wsX0_worth : List Cond := .code yX0_worth cX0_worth 1 (some .int) :: ([.fieldLink RX0 7 "PumiceSledge$Boat" "fore" "I", .fieldLink RX0 13 "PumiceSledge$Boat" "aft" "I"] ++ wsX00)
def wsX1_init : List Cond := .code yX1_init cX1_init 1 none :: ([.methodLink RX1 3 objectInit, .instanceMethod objectInit, .code objectInit ⟨#[0xb1]⟩ 1 none, .arrayClass .int, .fieldLink RX1 9 "PumiceSledge$Shore" "sacks" "[I"] ++ wsX10)
def wsX1_allSacks : List Cond := .code yX1_allSacks cX1_allSacks 1 (some .int) :: ([.fieldLink RX1 9 "PumiceSledge$Shore" "sacks" "[I"] ++ wsX10)
def wsX1_become : List Cond := .code yX1_become cX1_become 2 none :: ([.fieldLink RX1 9 "PumiceSledge$Shore" "sacks" "[I", .methodLink RX1 15 arraycopyName, .native arraycopyName, .static arraycopyName, .initialized "java/lang/System", .fieldLink RX1 21 "PumiceSledge$Shore" "lost" "I"] ++ wsX10)
def wsX2_init : List Cond := .code yX2_init cX2_init 1 none :: ([.methodLink RX2 3 objectInit, .instanceMethod objectInit, .code objectInit ⟨#[0xb1]⟩ 1 none, .arrayClass .int, .fieldLink RX2 9 "PumiceSledge$Sledge" "weights" "[I", .fieldLink RX2 15 "PumiceSledge$Sledge" "height" "I", .fieldLink RX2 19 "PumiceSledge$Sledge" "course" "I"] ++ wsX20)
def wsX2_isFull : List Cond := .code yX2_isFull cX2_isFull 1 (some .boolean) :: ([.fieldLink RX2 22 "PumiceSledge$Sledge" "aboard" "I", .fieldLink RX2 25 "PumiceSledge$Sledge" "holds" "I"] ++ wsX20)
def wsX2_load : List Cond := .code yX2_load cX2_load 2 none :: ([.fieldLink RX2 9 "PumiceSledge$Sledge" "weights" "[I", .fieldLink RX2 22 "PumiceSledge$Sledge" "aboard" "I", .methodLink RX2 28 yX2_isFull, .instanceMethod yX2_isFull, .selects RX2 yX2_isFull yX2_isFull, .initialized RX2, .code yX2_isFull cX2_isFull 1 (some .boolean), .fieldLink RX2 25 "PumiceSledge$Sledge" "holds" "I"] ++ wsX20)
def wsX2_weightAboard : List Cond := .code yX2_weightAboard cX2_weightAboard 3 (some .int) :: ([.fieldLink RX2 22 "PumiceSledge$Sledge" "aboard" "I", .fieldLink RX2 9 "PumiceSledge$Sledge" "weights" "[I"] ++ wsX20)
def wsX3_kindOf : List Cond := .code yX3_kindOf cX3_kindOf 1 (some .int) :: ([])
def wsX2_lastKind : List Cond := .code yX2_lastKind cX2_lastKind 1 (some .int) :: ([.fieldLink RX2 22 "PumiceSledge$Sledge" "aboard" "I", .fieldLink RX2 9 "PumiceSledge$Sledge" "weights" "[I", .static yX3_kindOf, .initialized RX3, .code yX3_kindOf cX3_kindOf 1 (some .int)] ++ wsX20)
def wsX2_become : List Cond := .code yX2_become cX2_become 2 none :: ([.fieldLink RX2 25 "PumiceSledge$Sledge" "holds" "I", .fieldLink RX2 9 "PumiceSledge$Sledge" "weights" "[I", .methodLink RX2 36 arraycopyName, .native arraycopyName, .static arraycopyName, .initialized "java/lang/System", .fieldLink RX2 22 "PumiceSledge$Sledge" "aboard" "I", .fieldLink RX2 15 "PumiceSledge$Sledge" "height" "I", .fieldLink RX2 19 "PumiceSledge$Sledge" "course" "I"] ++ wsX20)
def wsX2_unload : List Cond := .code yX2_unload cX2_unload 3 none :: ([.fieldLink RX2 22 "PumiceSledge$Sledge" "aboard" "I", .fieldLink RX2 9 "PumiceSledge$Sledge" "weights" "[I", .static yX3_kindOf, .initialized RX3, .code yX3_kindOf cX3_kindOf 1 (some .int)] ++ wsX20 ++ wsX10)
def wsX2_comeDown : List Cond := .code yX2_comeDown cX2_comeDown 3 none :: ([.fieldLink RX2 22 "PumiceSledge$Sledge" "aboard" "I", .fieldLink RX2 15 "PumiceSledge$Sledge" "height" "I", .methodLink RX2 54 Lib.Math.max.name, .static Lib.Math.max.name, .initialized "java/lang/Math", .code Lib.Math.max.name Lib.Math.max.code 2 (some .int), .fieldLink RX2 19 "PumiceSledge$Sledge" "course" "I", .methodLink RX2 60 yX2_unload, .instanceMethod yX2_unload, .selects RX2 yX2_unload yX2_unload, .initialized RX2, .code yX2_unload cX2_unload 3 none, .fieldLink RX2 9 "PumiceSledge$Sledge" "weights" "[I", .static yX3_kindOf, .initialized RX3, .code yX3_kindOf cX3_kindOf 1 (some .int)] ++ wsX20 ++ wsX10)
def wsX2_comeUp : List Cond := .code yX2_comeUp cX2_comeUp 1 none :: ([.fieldLink RX2 15 "PumiceSledge$Sledge" "height" "I", .methodLink RX2 67 Lib.Math.min.name, .static Lib.Math.min.name, .initialized "java/lang/Math", .code Lib.Math.min.name Lib.Math.min.code 2 (some .int), .fieldLink RX2 19 "PumiceSledge$Sledge" "course" "I"] ++ wsX20)
def wsX2_travel_r1 : List Cond := [Cond.fieldLink RX2 19 "PumiceSledge$Sledge" "course" "I", Cond.methodLink RX2 42 yX2_comeDown, Cond.instanceMethod yX2_comeDown, Cond.selects RX2 yX2_comeDown yX2_comeDown, Cond.initialized RX2, Cond.code yX2_comeDown cX2_comeDown 3 none, Cond.fieldLink RX2 22 "PumiceSledge$Sledge" "aboard" "I", Cond.fieldLink RX2 15 "PumiceSledge$Sledge" "height" "I", Cond.methodLink RX2 54 Lib.Math.max.name, Cond.static Lib.Math.max.name, Cond.initialized "java/lang/Math", Cond.code Lib.Math.max.name Lib.Math.max.code 2 (some .int), Cond.methodLink RX2 60 yX2_unload, Cond.instanceMethod yX2_unload, Cond.selects RX2 yX2_unload yX2_unload, Cond.code yX2_unload cX2_unload 3 none, Cond.fieldLink RX2 9 "PumiceSledge$Sledge" "weights" "[I", Cond.static yX3_kindOf, Cond.initialized RX3, Cond.code yX3_kindOf cX3_kindOf 1 (some .int), Cond.methodLink RX2 46 yX2_comeUp, Cond.instanceMethod yX2_comeUp, Cond.selects RX2 yX2_comeUp yX2_comeUp, Cond.code yX2_comeUp cX2_comeUp 1 none]
def wsX2_travel_r2 : List Cond := [Cond.methodLink RX2 67 Lib.Math.min.name, Cond.static Lib.Math.min.name, Cond.code Lib.Math.min.name Lib.Math.min.code 2 (some .int)]
def wsX2_travel : List Cond := .code yX2_travel cX2_travel 3 none :: ((wsX2_travel_r1 ++ wsX2_travel_r2) ++ wsX20 ++ wsX10)
def wsX3_init_r1 : List Cond := [Cond.methodLink RX3 1 objectInit, Cond.instanceMethod objectInit, Cond.code objectInit ⟨#[0xb1]⟩ 1 none, Cond.arrayClass .int, Cond.fieldLink RX3 9 "PumiceSledge" "stones" "[I", Cond.fieldLink RX3 13 "PumiceSledge" "stoneWeights" "[I", Cond.fieldLink RX3 16 "PumiceSledge" "gusts" "[I", Cond.classLink RX3 19 RX2, Cond.fieldLink RX3 21 "PumiceSledge" "sledges" "[LPumiceSledge$Sledge;", Cond.classLink RX3 25 RX0, Cond.fieldLink RX3 27 "PumiceSledge" "boats" "[LPumiceSledge$Boat;", Cond.classLink RX3 31 RX1, Cond.instantiable RX1 2, Cond.initialized RX1, Cond.fieldLink RX3 34 "PumiceSledge" "shore" "LPumiceSledge$Shore;", Cond.instantiable RX2 5, Cond.initialized RX2, Cond.fieldLink RX3 39 "PumiceSledge" "trial" "LPumiceSledge$Sledge;", Cond.fieldLink RX3 43 "PumiceSledge" "trialShore" "LPumiceSledge$Shore;", Cond.instantiable RX0 3, Cond.initialized RX0, Cond.instanceMethod yX1_init, Cond.code yX1_init cX1_init 1 none, Cond.methodLink RX1 3 objectInit]
def wsX3_init_r2 : List Cond := [Cond.fieldLink RX1 9 "PumiceSledge$Shore" "sacks" "[I", Cond.instanceMethod yX2_init, Cond.code yX2_init cX2_init 1 none, Cond.methodLink RX2 3 objectInit, Cond.fieldLink RX2 9 "PumiceSledge$Sledge" "weights" "[I", Cond.fieldLink RX2 15 "PumiceSledge$Sledge" "height" "I", Cond.fieldLink RX2 19 "PumiceSledge$Sledge" "course" "I", Cond.instanceMethod yX0_init, Cond.code yX0_init cX0_init 1 none, Cond.methodLink RX0 1 objectInit]
def wsX3_init : List Cond := .code yX3_init cX3_init 2 none :: ((wsX3_init_r1 ++ wsX3_init_r2) ++ wsX30 ++ wsX10 ++ wsX20 ++ wsX00)
def wsX3_isLayer : List Cond := .code yX3_isLayer cX3_isLayer 1 (some .boolean) :: ([.methodLink RX3 58 yX3_isWithin, .static yX3_isWithin, .initialized RX3, .code yX3_isWithin cX3_isWithin 3 (some .boolean)])
def wsX3_set : List Cond := .code yX3_set cX3_set 5 (some .int) :: ([.classLink RX3 51 "java/lang/IndexOutOfBoundsException", .initialized "java/lang/IndexOutOfBoundsException", .classLink RX3 62 "java/lang/IllegalArgumentException", .initialized "java/lang/IllegalArgumentException", .fieldLink RX3 9 "PumiceSledge" "stones" "[I", .fieldLink RX3 13 "PumiceSledge" "stoneWeights" "[I", .methodLink RX3 47 yX3_isLayer, .static yX3_isLayer, .initialized RX3, .code yX3_isLayer cX3_isLayer 1 (some .boolean), .methodLink RX3 58 yX3_isWithin, .static yX3_isWithin, .code yX3_isWithin cX3_isWithin 3 (some .boolean)] ++ wsX30 ++ (vx_atS RX3 55 "java/lang/IndexOutOfBoundsException" ["java/lang/RuntimeException", "java/lang/Exception"]).filter goodWord ++ (vx_atS RX3 66 "java/lang/IllegalArgumentException" ["java/lang/RuntimeException", "java/lang/Exception"]).filter goodWord)
def wsX3_setGust : List Cond := .code yX3_setGust cX3_setGust 4 (some .int) :: ([.classLink RX3 51 "java/lang/IndexOutOfBoundsException", .initialized "java/lang/IndexOutOfBoundsException", .classLink RX3 62 "java/lang/IllegalArgumentException", .initialized "java/lang/IllegalArgumentException", .fieldLink RX3 16 "PumiceSledge" "gusts" "[I", .methodLink RX3 58 yX3_isWithin, .static yX3_isWithin, .initialized RX3, .code yX3_isWithin cX3_isWithin 3 (some .boolean)] ++ wsX30 ++ (vx_atS RX3 55 "java/lang/IndexOutOfBoundsException" ["java/lang/RuntimeException", "java/lang/Exception"]).filter goodWord ++ (vx_atS RX3 66 "java/lang/IllegalArgumentException" ["java/lang/RuntimeException", "java/lang/Exception"]).filter goodWord)
def wsX3_build : List Cond := .code yX3_build cX3_build 2 (some .int) :: ([.classLink RX3 62 "java/lang/IllegalArgumentException", .initialized "java/lang/IllegalArgumentException", .classLink RX3 79 "java/lang/IllegalStateException", .initialized "java/lang/IllegalStateException", .fieldLink RX3 75 "PumiceSledge" "sledgeCount" "I", .fieldLink RX3 21 "PumiceSledge" "sledges" "[LPumiceSledge$Sledge;", .methodLink RX3 58 yX3_isWithin, .static yX3_isWithin, .initialized RX3, .code yX3_isWithin cX3_isWithin 3 (some .boolean)] ++ wsX30 ++ wsX20 ++ (vx_atS RX3 66 "java/lang/IllegalArgumentException" ["java/lang/RuntimeException", "java/lang/Exception"]).filter goodWord ++ (vx_atS RX3 83 "java/lang/IllegalStateException" ["java/lang/RuntimeException", "java/lang/Exception"]).filter goodWord)
def wsX3_isSledge : List Cond := .code yX3_isSledge cX3_isSledge 2 (some .boolean) :: ([.fieldLink RX3 75 "PumiceSledge" "sledgeCount" "I"] ++ wsX30)
def wsX3_sackWeight : List Cond := .code yX3_sackWeight cX3_sackWeight 2 (some .int) :: ([.fieldLink RX3 13 "PumiceSledge" "stoneWeights" "[I"] ++ wsX30)
def wsX3_fill_r1 : List Cond := [Cond.classLink RX3 51 "java/lang/IndexOutOfBoundsException", Cond.initialized "java/lang/IndexOutOfBoundsException", Cond.classLink RX3 79 "java/lang/IllegalStateException", Cond.initialized "java/lang/IllegalStateException", Cond.fieldLink RX3 21 "PumiceSledge" "sledges" "[LPumiceSledge$Sledge;", Cond.fieldLink RX3 9 "PumiceSledge" "stones" "[I", Cond.methodLink RX3 87 yX3_isSledge, Cond.instanceMethod yX3_isSledge, Cond.selects RX3 yX3_isSledge yX3_isSledge, Cond.initialized RX3, Cond.code yX3_isSledge cX3_isSledge 2 (some .boolean), Cond.fieldLink RX3 75 "PumiceSledge" "sledgeCount" "I", Cond.methodLink RX3 47 yX3_isLayer, Cond.static yX3_isLayer, Cond.code yX3_isLayer cX3_isLayer 1 (some .boolean), Cond.methodLink RX3 58 yX3_isWithin, Cond.static yX3_isWithin, Cond.code yX3_isWithin cX3_isWithin 3 (some .boolean), Cond.methodLink RX3 97 yX2_isFull, Cond.instanceMethod yX2_isFull, Cond.selects RX2 yX2_isFull yX2_isFull, Cond.initialized RX2, Cond.code yX2_isFull cX2_isFull 1 (some .boolean), Cond.fieldLink RX2 22 "PumiceSledge$Sledge" "aboard" "I"]
def wsX3_fill_r2 : List Cond := [Cond.fieldLink RX2 25 "PumiceSledge$Sledge" "holds" "I", Cond.methodLink RX3 105 yX3_sackWeight, Cond.instanceMethod yX3_sackWeight, Cond.selects RX3 yX3_sackWeight yX3_sackWeight, Cond.code yX3_sackWeight cX3_sackWeight 2 (some .int), Cond.fieldLink RX3 13 "PumiceSledge" "stoneWeights" "[I", Cond.methodLink RX3 109 yX2_load, Cond.instanceMethod yX2_load, Cond.selects RX2 yX2_load yX2_load, Cond.code yX2_load cX2_load 2 none, Cond.fieldLink RX2 9 "PumiceSledge$Sledge" "weights" "[I", Cond.methodLink RX2 28 yX2_isFull, Cond.methodLink RX3 113 yX3_kindOf, Cond.static yX3_kindOf, Cond.code yX3_kindOf cX3_kindOf 1 (some .int)]
def wsX3_fill : List Cond := .code yX3_fill cX3_fill 5 (some .int) :: ((wsX3_fill_r1 ++ wsX3_fill_r2) ++ wsX30 ++ wsX20 ++ (vx_atS RX3 55 "java/lang/IndexOutOfBoundsException" ["java/lang/RuntimeException", "java/lang/Exception"]).filter goodWord ++ (vx_atS RX3 83 "java/lang/IllegalStateException" ["java/lang/RuntimeException", "java/lang/Exception"]).filter goodWord)
def wsX3_go : List Cond := .code yX3_go cX3_go 3 (some .int) :: ([.classLink RX3 51 "java/lang/IndexOutOfBoundsException", .initialized "java/lang/IndexOutOfBoundsException", .classLink RX3 79 "java/lang/IllegalStateException", .initialized "java/lang/IllegalStateException", .fieldLink RX3 21 "PumiceSledge" "sledges" "[LPumiceSledge$Sledge;", .methodLink RX3 87 yX3_isSledge, .instanceMethod yX3_isSledge, .selects RX3 yX3_isSledge yX3_isSledge, .initialized RX3, .code yX3_isSledge cX3_isSledge 2 (some .boolean), .fieldLink RX3 75 "PumiceSledge" "sledgeCount" "I"] ++ wsX30 ++ wsX20 ++ (vx_atS RX3 55 "java/lang/IndexOutOfBoundsException" ["java/lang/RuntimeException", "java/lang/Exception"]).filter goodWord ++ (vx_atS RX3 83 "java/lang/IllegalStateException" ["java/lang/RuntimeException", "java/lang/Exception"]).filter goodWord)
def wsX3_launch : List Cond := .code yX3_launch cX3_launch 2 (some .int) :: ([.classLink RX3 62 "java/lang/IllegalArgumentException", .initialized "java/lang/IllegalArgumentException", .classLink RX3 79 "java/lang/IllegalStateException", .initialized "java/lang/IllegalStateException", .fieldLink RX3 121 "PumiceSledge" "boatCount" "I", .fieldLink RX3 27 "PumiceSledge" "boats" "[LPumiceSledge$Boat;", .methodLink RX3 58 yX3_isWithin, .static yX3_isWithin, .initialized RX3, .code yX3_isWithin cX3_isWithin 3 (some .boolean)] ++ wsX30 ++ wsX00 ++ (vx_atS RX3 66 "java/lang/IllegalArgumentException" ["java/lang/RuntimeException", "java/lang/Exception"]).filter goodWord ++ (vx_atS RX3 83 "java/lang/IllegalStateException" ["java/lang/RuntimeException", "java/lang/Exception"]).filter goodWord)
def wsX3_isBoat : List Cond := .code yX3_isBoat cX3_isBoat 2 (some .boolean) :: ([.fieldLink RX3 121 "PumiceSledge" "boatCount" "I"] ++ wsX30)
def wsX3_isKind : List Cond := .code yX3_isKind cX3_isKind 1 (some .boolean) :: ([.methodLink RX3 58 yX3_isWithin, .static yX3_isWithin, .initialized RX3, .code yX3_isWithin cX3_isWithin 3 (some .boolean)])
def wsX3_stowedWeight : List Cond := .code yX3_stowedWeight cX3_stowedWeight 1 (some .int) :: ([])
def wsX3_stow_r1 : List Cond := [Cond.classLink RX3 51 "java/lang/IndexOutOfBoundsException", Cond.initialized "java/lang/IndexOutOfBoundsException", Cond.classLink RX3 79 "java/lang/IllegalStateException", Cond.initialized "java/lang/IllegalStateException", Cond.fieldLink RX3 27 "PumiceSledge" "boats" "[LPumiceSledge$Boat;", Cond.fieldLink RX3 34 "PumiceSledge" "shore" "LPumiceSledge$Shore;", Cond.methodLink RX3 129 yX3_isBoat, Cond.instanceMethod yX3_isBoat, Cond.selects RX3 yX3_isBoat yX3_isBoat, Cond.initialized RX3, Cond.code yX3_isBoat cX3_isBoat 2 (some .boolean), Cond.fieldLink RX3 121 "PumiceSledge" "boatCount" "I", Cond.methodLink RX3 134 yX3_isKind, Cond.static yX3_isKind, Cond.code yX3_isKind cX3_isKind 1 (some .boolean), Cond.methodLink RX3 58 yX3_isWithin, Cond.static yX3_isWithin, Cond.code yX3_isWithin cX3_isWithin 3 (some .boolean), Cond.methodLink RX3 139 yX3_stowedWeight, Cond.static yX3_stowedWeight, Cond.code yX3_stowedWeight cX3_stowedWeight 1 (some .int), Cond.methodLink RX3 147 yX0_room, Cond.instanceMethod yX0_room, Cond.selects RX0 yX0_room yX0_room]
def wsX3_stow_r2 : List Cond := [Cond.initialized RX0, Cond.code yX0_room cX0_room 1 (some .int), Cond.fieldLink RX0 33 "PumiceSledge$Boat" "mostLoad" "I", Cond.fieldLink RX0 7 "PumiceSledge$Boat" "fore" "I", Cond.fieldLink RX0 13 "PumiceSledge$Boat" "aft" "I", Cond.methodLink RX3 159 yX0_trim, Cond.instanceMethod yX0_trim, Cond.selects RX0 yX0_trim yX0_trim, Cond.code yX0_trim cX0_trim 1 (some .int)]
def wsX3_stow : List Cond := .code yX3_stow cX3_stow 6 (some .int) :: ((wsX3_stow_r1 ++ wsX3_stow_r2) ++ wsX30 ++ wsX10 ++ wsX00 ++ (vx_atS RX3 55 "java/lang/IndexOutOfBoundsException" ["java/lang/RuntimeException", "java/lang/Exception"]).filter goodWord ++ (vx_atS RX3 83 "java/lang/IllegalStateException" ["java/lang/RuntimeException", "java/lang/Exception"]).filter goodWord)
def wsX3_sail_r1 : List Cond := [Cond.classLink RX3 51 "java/lang/IndexOutOfBoundsException", Cond.initialized "java/lang/IndexOutOfBoundsException", Cond.classLink RX3 79 "java/lang/IllegalStateException", Cond.initialized "java/lang/IllegalStateException", Cond.fieldLink RX3 27 "PumiceSledge" "boats" "[LPumiceSledge$Boat;", Cond.fieldLink RX3 170 "PumiceSledge" "coins" "I", Cond.methodLink RX3 129 yX3_isBoat, Cond.instanceMethod yX3_isBoat, Cond.selects RX3 yX3_isBoat yX3_isBoat, Cond.initialized RX3, Cond.code yX3_isBoat cX3_isBoat 2 (some .boolean), Cond.fieldLink RX3 121 "PumiceSledge" "boatCount" "I", Cond.methodLink RX3 162 yX0_canSail, Cond.instanceMethod yX0_canSail, Cond.selects RX0 yX0_canSail yX0_canSail, Cond.initialized RX0, Cond.code yX0_canSail cX0_canSail 1 (some .boolean), Cond.methodLink RX0 22 yX0_depth, Cond.instanceMethod yX0_depth, Cond.selects RX0 yX0_depth yX0_depth, Cond.code yX0_depth cX0_depth 1 (some .int), Cond.fieldLink RX0 7 "PumiceSledge$Boat" "fore" "I", Cond.fieldLink RX0 13 "PumiceSledge$Boat" "aft" "I", Cond.static yX3_depthOf]
def wsX3_sail_r2 : List Cond := [Cond.code yX3_depthOf cX3_depthOf 2 (some .int), Cond.methodLink RX3 274 Lib.Math.abs.name, Cond.static Lib.Math.abs.name, Cond.initialized "java/lang/Math", Cond.code Lib.Math.abs.name Lib.Math.abs.code 1 (some .int), Cond.methodLink RX0 26 yX0_trim, Cond.instanceMethod yX0_trim, Cond.selects RX0 yX0_trim yX0_trim, Cond.code yX0_trim cX0_trim 1 (some .int), Cond.static yX3_isWithin, Cond.code yX3_isWithin cX3_isWithin 3 (some .boolean), Cond.methodLink RX3 167 yX0_worth, Cond.instanceMethod yX0_worth, Cond.selects RX0 yX0_worth yX0_worth, Cond.code yX0_worth cX0_worth 1 (some .int)]
def wsX3_sail : List Cond := .code yX3_sail cX3_sail 4 (some .int) :: ((wsX3_sail_r1 ++ wsX3_sail_r2) ++ wsX30 ++ wsX00 ++ (vx_atS RX3 55 "java/lang/IndexOutOfBoundsException" ["java/lang/RuntimeException", "java/lang/Exception"]).filter goodWord ++ (vx_atS RX3 83 "java/lang/IllegalStateException" ["java/lang/RuntimeException", "java/lang/Exception"]).filter goodWord)
def wsX3_layer : List Cond := .code yX3_layer cX3_layer 3 (some .int) :: ([.classLink RX3 51 "java/lang/IndexOutOfBoundsException", .initialized "java/lang/IndexOutOfBoundsException", .fieldLink RX3 9 "PumiceSledge" "stones" "[I", .fieldLink RX3 13 "PumiceSledge" "stoneWeights" "[I", .methodLink RX3 47 yX3_isLayer, .static yX3_isLayer, .initialized RX3, .code yX3_isLayer cX3_isLayer 1 (some .boolean), .methodLink RX3 58 yX3_isWithin, .static yX3_isWithin, .code yX3_isWithin cX3_isWithin 3 (some .boolean), .methodLink RX3 105 yX3_sackWeight, .instanceMethod yX3_sackWeight, .selects RX3 yX3_sackWeight yX3_sackWeight, .code yX3_sackWeight cX3_sackWeight 2 (some .int), .methodLink RX3 113 yX3_kindOf, .static yX3_kindOf, .code yX3_kindOf cX3_kindOf 1 (some .int)] ++ wsX30 ++ (vx_atS RX3 55 "java/lang/IndexOutOfBoundsException" ["java/lang/RuntimeException", "java/lang/Exception"]).filter goodWord)
def wsX3_told_r1 : List Cond := [Cond.classLink RX3 51 "java/lang/IndexOutOfBoundsException", Cond.initialized "java/lang/IndexOutOfBoundsException", Cond.fieldLink RX3 21 "PumiceSledge" "sledges" "[LPumiceSledge$Sledge;", Cond.methodLink RX3 87 yX3_isSledge, Cond.instanceMethod yX3_isSledge, Cond.selects RX3 yX3_isSledge yX3_isSledge, Cond.initialized RX3, Cond.code yX3_isSledge cX3_isSledge 2 (some .boolean), Cond.fieldLink RX3 75 "PumiceSledge" "sledgeCount" "I", Cond.methodLink RX3 58 yX3_isWithin, Cond.static yX3_isWithin, Cond.code yX3_isWithin cX3_isWithin 3 (some .boolean), Cond.methodLink RX3 180 yX2_weightAboard, Cond.instanceMethod yX2_weightAboard, Cond.selects RX2 yX2_weightAboard yX2_weightAboard, Cond.initialized RX2, Cond.code yX2_weightAboard cX2_weightAboard 3 (some .int), Cond.fieldLink RX2 22 "PumiceSledge$Sledge" "aboard" "I", Cond.fieldLink RX2 9 "PumiceSledge$Sledge" "weights" "[I", Cond.methodLink RX3 183 yX2_lastKind, Cond.instanceMethod yX2_lastKind, Cond.selects RX2 yX2_lastKind yX2_lastKind, Cond.code yX2_lastKind cX2_lastKind 1 (some .int), Cond.static yX3_kindOf]
def wsX3_told_r2 : List Cond := [Cond.code yX3_kindOf cX3_kindOf 1 (some .int)]
def wsX3_told : List Cond := .code yX3_told cX3_told 4 (some .int) :: ((wsX3_told_r1 ++ wsX3_told_r2) ++ wsX30 ++ wsX20 ++ (vx_atS RX3 55 "java/lang/IndexOutOfBoundsException" ["java/lang/RuntimeException", "java/lang/Exception"]).filter goodWord)
def wsX3_boat_r1 : List Cond := [Cond.classLink RX3 51 "java/lang/IndexOutOfBoundsException", Cond.initialized "java/lang/IndexOutOfBoundsException", Cond.fieldLink RX3 27 "PumiceSledge" "boats" "[LPumiceSledge$Boat;", Cond.methodLink RX3 129 yX3_isBoat, Cond.instanceMethod yX3_isBoat, Cond.selects RX3 yX3_isBoat yX3_isBoat, Cond.initialized RX3, Cond.code yX3_isBoat cX3_isBoat 2 (some .boolean), Cond.fieldLink RX3 121 "PumiceSledge" "boatCount" "I", Cond.methodLink RX3 58 yX3_isWithin, Cond.static yX3_isWithin, Cond.code yX3_isWithin cX3_isWithin 3 (some .boolean), Cond.methodLink RX3 159 yX0_trim, Cond.instanceMethod yX0_trim, Cond.selects RX0 yX0_trim yX0_trim, Cond.initialized RX0, Cond.code yX0_trim cX0_trim 1 (some .int), Cond.fieldLink RX0 7 "PumiceSledge$Boat" "fore" "I", Cond.fieldLink RX0 13 "PumiceSledge$Boat" "aft" "I", Cond.methodLink RX3 188 yX0_depth, Cond.instanceMethod yX0_depth, Cond.selects RX0 yX0_depth yX0_depth, Cond.code yX0_depth cX0_depth 1 (some .int), Cond.static yX3_depthOf]
def wsX3_boat_r2 : List Cond := [Cond.code yX3_depthOf cX3_depthOf 2 (some .int), Cond.methodLink RX3 274 Lib.Math.abs.name, Cond.static Lib.Math.abs.name, Cond.initialized "java/lang/Math", Cond.code Lib.Math.abs.name Lib.Math.abs.code 1 (some .int), Cond.methodLink RX3 162 yX0_canSail, Cond.instanceMethod yX0_canSail, Cond.selects RX0 yX0_canSail yX0_canSail, Cond.code yX0_canSail cX0_canSail 1 (some .boolean), Cond.methodLink RX0 22 yX0_depth, Cond.methodLink RX0 26 yX0_trim, Cond.methodLink RX3 147 yX0_room, Cond.instanceMethod yX0_room, Cond.selects RX0 yX0_room yX0_room, Cond.code yX0_room cX0_room 1 (some .int), Cond.fieldLink RX0 33 "PumiceSledge$Boat" "mostLoad" "I"]
def wsX3_boat : List Cond := .code yX3_boat cX3_boat 4 (some .int) :: ((wsX3_boat_r1 ++ wsX3_boat_r2) ++ wsX30 ++ wsX00 ++ (vx_atS RX3 55 "java/lang/IndexOutOfBoundsException" ["java/lang/RuntimeException", "java/lang/Exception"]).filter goodWord)
def wsX3_beach : List Cond := .code yX3_beach cX3_beach 2 (some .int) :: ([.classLink RX3 51 "java/lang/IndexOutOfBoundsException", .initialized "java/lang/IndexOutOfBoundsException", .fieldLink RX3 34 "PumiceSledge" "shore" "LPumiceSledge$Shore;", .methodLink RX3 134 yX3_isKind, .static yX3_isKind, .initialized RX3, .code yX3_isKind cX3_isKind 1 (some .boolean), .methodLink RX3 58 yX3_isWithin, .static yX3_isWithin, .code yX3_isWithin cX3_isWithin 3 (some .boolean)] ++ wsX30 ++ wsX10 ++ (vx_atS RX3 55 "java/lang/IndexOutOfBoundsException" ["java/lang/RuntimeException", "java/lang/Exception"]).filter goodWord)
def wsJ9_floorMod_7cf53 : List Cond := .code yJ9_floorMod_7cf53 cJ9_floorMod_7cf53 3 (some .int) :: ([])
def wsX3_gustAt : List Cond := .code yX3_gustAt cX3_gustAt 2 (some .int) :: ([.fieldLink RX3 16 "PumiceSledge" "gusts" "[I", .methodLink RX3 269 yJ9_floorMod_7cf53, .static yJ9_floorMod_7cf53, .initialized RJ9, .code yJ9_floorMod_7cf53 cJ9_floorMod_7cf53 3 (some .int)] ++ wsX30)
def wsX3_sacksAboard : List Cond := .code yX3_sacksAboard cX3_sacksAboard 3 (some .int) :: ([.fieldLink RX3 75 "PumiceSledge" "sledgeCount" "I", .fieldLink RX3 21 "PumiceSledge" "sledges" "[LPumiceSledge$Sledge;"] ++ wsX30 ++ wsX20)
def wsX3_allStones : List Cond := .code yX3_allStones cX3_allStones 3 (some .int) :: ([.fieldLink RX3 9 "PumiceSledge" "stones" "[I"] ++ wsX30)
def wsX3_count_r1 : List Cond := [Cond.classLink RX3 51 "java/lang/IndexOutOfBoundsException", Cond.initialized "java/lang/IndexOutOfBoundsException", Cond.fieldLink RX3 193 "PumiceSledge" "hour" "I", Cond.fieldLink RX3 75 "PumiceSledge" "sledgeCount" "I", Cond.fieldLink RX3 121 "PumiceSledge" "boatCount" "I", Cond.fieldLink RX3 170 "PumiceSledge" "coins" "I", Cond.fieldLink RX3 34 "PumiceSledge" "shore" "LPumiceSledge$Shore;", Cond.methodLink RX3 58 yX3_isWithin, Cond.static yX3_isWithin, Cond.initialized RX3, Cond.code yX3_isWithin cX3_isWithin 3 (some .boolean), Cond.methodLink RX3 196 yX3_gustAt, Cond.instanceMethod yX3_gustAt, Cond.selects RX3 yX3_gustAt yX3_gustAt, Cond.code yX3_gustAt cX3_gustAt 2 (some .int), Cond.fieldLink RX3 16 "PumiceSledge" "gusts" "[I", Cond.methodLink RX3 269 yJ9_floorMod_7cf53, Cond.static yJ9_floorMod_7cf53, Cond.initialized RJ9, Cond.code yJ9_floorMod_7cf53 cJ9_floorMod_7cf53 3 (some .int), Cond.methodLink RX3 199 yX3_sacksAboard, Cond.instanceMethod yX3_sacksAboard, Cond.selects RX3 yX3_sacksAboard yX3_sacksAboard, Cond.code yX3_sacksAboard cX3_sacksAboard 3 (some .int)]
def wsX3_count_r2 : List Cond := [Cond.fieldLink RX3 21 "PumiceSledge" "sledges" "[LPumiceSledge$Sledge;", Cond.methodLink RX3 202 yX1_allSacks, Cond.instanceMethod yX1_allSacks, Cond.selects RX1 yX1_allSacks yX1_allSacks, Cond.initialized RX1, Cond.code yX1_allSacks cX1_allSacks 1 (some .int), Cond.fieldLink RX1 9 "PumiceSledge$Shore" "sacks" "[I", Cond.methodLink RX3 208 yX3_allStones, Cond.instanceMethod yX3_allStones, Cond.selects RX3 yX3_allStones yX3_allStones, Cond.code yX3_allStones cX3_allStones 3 (some .int), Cond.fieldLink RX3 9 "PumiceSledge" "stones" "[I"]
def wsX3_count : List Cond := .code yX3_count cX3_count 2 (some .int) :: ((wsX3_count_r1 ++ wsX3_count_r2) ++ wsX30 ++ wsX10 ++ wsX20 ++ (vx_atS RX3 55 "java/lang/IndexOutOfBoundsException" ["java/lang/RuntimeException", "java/lang/Exception"]).filter goodWord)
def wsX3_passOneHour_r1 : List Cond := [Cond.fieldLink RX3 193 "PumiceSledge" "hour" "I", Cond.fieldLink RX3 75 "PumiceSledge" "sledgeCount" "I", Cond.fieldLink RX3 21 "PumiceSledge" "sledges" "[LPumiceSledge$Sledge;", Cond.fieldLink RX3 34 "PumiceSledge" "shore" "LPumiceSledge$Shore;", Cond.methodLink RX3 196 yX3_gustAt, Cond.instanceMethod yX3_gustAt, Cond.selects RX3 yX3_gustAt yX3_gustAt, Cond.initialized RX3, Cond.code yX3_gustAt cX3_gustAt 2 (some .int), Cond.fieldLink RX3 16 "PumiceSledge" "gusts" "[I", Cond.methodLink RX3 269 yJ9_floorMod_7cf53, Cond.static yJ9_floorMod_7cf53, Cond.initialized RJ9, Cond.code yJ9_floorMod_7cf53 cJ9_floorMod_7cf53 3 (some .int), Cond.methodLink RX3 220 yX2_travel, Cond.instanceMethod yX2_travel, Cond.selects RX2 yX2_travel yX2_travel, Cond.initialized RX2, Cond.code yX2_travel cX2_travel 3 none, Cond.fieldLink RX2 19 "PumiceSledge$Sledge" "course" "I", Cond.methodLink RX2 42 yX2_comeDown, Cond.instanceMethod yX2_comeDown, Cond.selects RX2 yX2_comeDown yX2_comeDown, Cond.code yX2_comeDown cX2_comeDown 3 none]
def wsX3_passOneHour_r2 : List Cond := [Cond.fieldLink RX2 22 "PumiceSledge$Sledge" "aboard" "I", Cond.fieldLink RX2 15 "PumiceSledge$Sledge" "height" "I", Cond.methodLink RX2 54 Lib.Math.max.name, Cond.static Lib.Math.max.name, Cond.initialized "java/lang/Math", Cond.code Lib.Math.max.name Lib.Math.max.code 2 (some .int), Cond.methodLink RX2 60 yX2_unload, Cond.instanceMethod yX2_unload, Cond.selects RX2 yX2_unload yX2_unload, Cond.code yX2_unload cX2_unload 3 none, Cond.fieldLink RX2 9 "PumiceSledge$Sledge" "weights" "[I", Cond.static yX3_kindOf, Cond.code yX3_kindOf cX3_kindOf 1 (some .int), Cond.methodLink RX2 46 yX2_comeUp, Cond.instanceMethod yX2_comeUp, Cond.selects RX2 yX2_comeUp yX2_comeUp, Cond.code yX2_comeUp cX2_comeUp 1 none, Cond.methodLink RX2 67 Lib.Math.min.name, Cond.static Lib.Math.min.name, Cond.code Lib.Math.min.name Lib.Math.min.code 2 (some .int)]
def wsX3_passOneHour : List Cond := .code yX3_passOneHour cX3_passOneHour 3 none :: ((wsX3_passOneHour_r1 ++ wsX3_passOneHour_r2) ++ wsX30 ++ wsX20 ++ wsX10)
def wsX3_pass_r1 : List Cond := [Cond.classLink RX3 62 "java/lang/IllegalArgumentException", Cond.initialized "java/lang/IllegalArgumentException", Cond.fieldLink RX3 34 "PumiceSledge" "shore" "LPumiceSledge$Shore;", Cond.methodLink RX3 58 yX3_isWithin, Cond.static yX3_isWithin, Cond.initialized RX3, Cond.code yX3_isWithin cX3_isWithin 3 (some .boolean), Cond.methodLink RX3 202 yX1_allSacks, Cond.instanceMethod yX1_allSacks, Cond.selects RX1 yX1_allSacks yX1_allSacks, Cond.initialized RX1, Cond.code yX1_allSacks cX1_allSacks 1 (some .int), Cond.fieldLink RX1 9 "PumiceSledge$Shore" "sacks" "[I", Cond.methodLink RX3 213 yX3_passOneHour, Cond.instanceMethod yX3_passOneHour, Cond.selects RX3 yX3_passOneHour yX3_passOneHour, Cond.code yX3_passOneHour cX3_passOneHour 3 none, Cond.fieldLink RX3 193 "PumiceSledge" "hour" "I", Cond.fieldLink RX3 75 "PumiceSledge" "sledgeCount" "I", Cond.fieldLink RX3 21 "PumiceSledge" "sledges" "[LPumiceSledge$Sledge;", Cond.methodLink RX3 196 yX3_gustAt, Cond.instanceMethod yX3_gustAt, Cond.selects RX3 yX3_gustAt yX3_gustAt, Cond.code yX3_gustAt cX3_gustAt 2 (some .int)]
def wsX3_pass_r2 : List Cond := [Cond.fieldLink RX3 16 "PumiceSledge" "gusts" "[I", Cond.methodLink RX3 269 yJ9_floorMod_7cf53, Cond.static yJ9_floorMod_7cf53, Cond.initialized RJ9, Cond.code yJ9_floorMod_7cf53 cJ9_floorMod_7cf53 3 (some .int), Cond.methodLink RX3 220 yX2_travel, Cond.instanceMethod yX2_travel, Cond.selects RX2 yX2_travel yX2_travel, Cond.initialized RX2, Cond.code yX2_travel cX2_travel 3 none, Cond.fieldLink RX2 19 "PumiceSledge$Sledge" "course" "I", Cond.methodLink RX2 42 yX2_comeDown, Cond.instanceMethod yX2_comeDown, Cond.selects RX2 yX2_comeDown yX2_comeDown, Cond.code yX2_comeDown cX2_comeDown 3 none, Cond.fieldLink RX2 22 "PumiceSledge$Sledge" "aboard" "I", Cond.fieldLink RX2 15 "PumiceSledge$Sledge" "height" "I", Cond.methodLink RX2 54 Lib.Math.max.name, Cond.static Lib.Math.max.name, Cond.initialized "java/lang/Math", Cond.code Lib.Math.max.name Lib.Math.max.code 2 (some .int), Cond.methodLink RX2 60 yX2_unload, Cond.instanceMethod yX2_unload, Cond.selects RX2 yX2_unload yX2_unload]
def wsX3_pass_r3 : List Cond := [Cond.code yX2_unload cX2_unload 3 none, Cond.fieldLink RX2 9 "PumiceSledge$Sledge" "weights" "[I", Cond.static yX3_kindOf, Cond.code yX3_kindOf cX3_kindOf 1 (some .int), Cond.methodLink RX2 46 yX2_comeUp, Cond.instanceMethod yX2_comeUp, Cond.selects RX2 yX2_comeUp yX2_comeUp, Cond.code yX2_comeUp cX2_comeUp 1 none, Cond.methodLink RX2 67 Lib.Math.min.name, Cond.static Lib.Math.min.name, Cond.code Lib.Math.min.name Lib.Math.min.code 2 (some .int)]
def wsX3_pass : List Cond := .code yX3_pass cX3_pass 4 (some .int) :: ((wsX3_pass_r1 ++ (wsX3_pass_r2 ++ wsX3_pass_r3)) ++ wsX30 ++ wsX10 ++ wsX20 ++ (vx_atS RX3 66 "java/lang/IllegalArgumentException" ["java/lang/RuntimeException", "java/lang/Exception"]).filter goodWord)
def wsX3_back_r1 : List Cond := [Cond.classLink RX3 51 "java/lang/IndexOutOfBoundsException", Cond.initialized "java/lang/IndexOutOfBoundsException", Cond.fieldLink RX3 39 "PumiceSledge" "trial" "LPumiceSledge$Sledge;", Cond.fieldLink RX3 21 "PumiceSledge" "sledges" "[LPumiceSledge$Sledge;", Cond.fieldLink RX3 193 "PumiceSledge" "hour" "I", Cond.fieldLink RX3 43 "PumiceSledge" "trialShore" "LPumiceSledge$Shore;", Cond.methodLink RX3 87 yX3_isSledge, Cond.instanceMethod yX3_isSledge, Cond.selects RX3 yX3_isSledge yX3_isSledge, Cond.initialized RX3, Cond.code yX3_isSledge cX3_isSledge 2 (some .boolean), Cond.fieldLink RX3 75 "PumiceSledge" "sledgeCount" "I", Cond.methodLink RX3 216 yX2_become, Cond.instanceMethod yX2_become, Cond.selects RX2 yX2_become yX2_become, Cond.initialized RX2, Cond.code yX2_become cX2_become 2 none, Cond.fieldLink RX2 25 "PumiceSledge$Sledge" "holds" "I", Cond.fieldLink RX2 9 "PumiceSledge$Sledge" "weights" "[I", Cond.methodLink RX2 36 arraycopyName, Cond.native arraycopyName, Cond.static arraycopyName, Cond.initialized "java/lang/System", Cond.fieldLink RX2 22 "PumiceSledge$Sledge" "aboard" "I"]
def wsX3_back_r2 : List Cond := [Cond.fieldLink RX2 15 "PumiceSledge$Sledge" "height" "I", Cond.fieldLink RX2 19 "PumiceSledge$Sledge" "course" "I", Cond.methodLink RX3 196 yX3_gustAt, Cond.instanceMethod yX3_gustAt, Cond.selects RX3 yX3_gustAt yX3_gustAt, Cond.code yX3_gustAt cX3_gustAt 2 (some .int), Cond.fieldLink RX3 16 "PumiceSledge" "gusts" "[I", Cond.methodLink RX3 269 yJ9_floorMod_7cf53, Cond.static yJ9_floorMod_7cf53, Cond.initialized RJ9, Cond.code yJ9_floorMod_7cf53 cJ9_floorMod_7cf53 3 (some .int), Cond.methodLink RX3 220 yX2_travel, Cond.instanceMethod yX2_travel, Cond.selects RX2 yX2_travel yX2_travel, Cond.code yX2_travel cX2_travel 3 none, Cond.methodLink RX2 42 yX2_comeDown, Cond.instanceMethod yX2_comeDown, Cond.selects RX2 yX2_comeDown yX2_comeDown, Cond.code yX2_comeDown cX2_comeDown 3 none, Cond.methodLink RX2 54 Lib.Math.max.name, Cond.static Lib.Math.max.name, Cond.initialized "java/lang/Math", Cond.code Lib.Math.max.name Lib.Math.max.code 2 (some .int), Cond.methodLink RX2 60 yX2_unload]
def wsX3_back_r3 : List Cond := [Cond.instanceMethod yX2_unload, Cond.selects RX2 yX2_unload yX2_unload, Cond.code yX2_unload cX2_unload 3 none, Cond.static yX3_kindOf, Cond.code yX3_kindOf cX3_kindOf 1 (some .int), Cond.methodLink RX2 46 yX2_comeUp, Cond.instanceMethod yX2_comeUp, Cond.selects RX2 yX2_comeUp yX2_comeUp, Cond.code yX2_comeUp cX2_comeUp 1 none, Cond.methodLink RX2 67 Lib.Math.min.name, Cond.static Lib.Math.min.name, Cond.code Lib.Math.min.name Lib.Math.min.code 2 (some .int)]
def wsX3_back : List Cond := .code yX3_back cX3_back 3 (some .int) :: ((wsX3_back_r1 ++ (wsX3_back_r2 ++ wsX3_back_r3)) ++ wsX30 ++ wsX20 ++ wsX10 ++ (vx_atS RX3 55 "java/lang/IndexOutOfBoundsException" ["java/lang/RuntimeException", "java/lang/Exception"]).filter goodWord)
def wsX3_arrives_r1 : List Cond := [Cond.classLink RX3 51 "java/lang/IndexOutOfBoundsException", Cond.initialized "java/lang/IndexOutOfBoundsException", Cond.fieldLink RX3 39 "PumiceSledge" "trial" "LPumiceSledge$Sledge;", Cond.fieldLink RX3 21 "PumiceSledge" "sledges" "[LPumiceSledge$Sledge;", Cond.fieldLink RX3 43 "PumiceSledge" "trialShore" "LPumiceSledge$Shore;", Cond.fieldLink RX3 193 "PumiceSledge" "hour" "I", Cond.methodLink RX3 87 yX3_isSledge, Cond.instanceMethod yX3_isSledge, Cond.selects RX3 yX3_isSledge yX3_isSledge, Cond.initialized RX3, Cond.code yX3_isSledge cX3_isSledge 2 (some .boolean), Cond.fieldLink RX3 75 "PumiceSledge" "sledgeCount" "I", Cond.methodLink RX3 216 yX2_become, Cond.instanceMethod yX2_become, Cond.selects RX2 yX2_become yX2_become, Cond.initialized RX2, Cond.code yX2_become cX2_become 2 none, Cond.fieldLink RX2 25 "PumiceSledge$Sledge" "holds" "I", Cond.fieldLink RX2 9 "PumiceSledge$Sledge" "weights" "[I", Cond.methodLink RX2 36 arraycopyName, Cond.native arraycopyName, Cond.static arraycopyName, Cond.initialized "java/lang/System", Cond.fieldLink RX2 22 "PumiceSledge$Sledge" "aboard" "I"]
def wsX3_arrives_r2 : List Cond := [Cond.fieldLink RX2 15 "PumiceSledge$Sledge" "height" "I", Cond.fieldLink RX2 19 "PumiceSledge$Sledge" "course" "I", Cond.methodLink RX3 202 yX1_allSacks, Cond.instanceMethod yX1_allSacks, Cond.selects RX1 yX1_allSacks yX1_allSacks, Cond.initialized RX1, Cond.code yX1_allSacks cX1_allSacks 1 (some .int), Cond.fieldLink RX1 9 "PumiceSledge$Shore" "sacks" "[I", Cond.methodLink RX3 196 yX3_gustAt, Cond.instanceMethod yX3_gustAt, Cond.selects RX3 yX3_gustAt yX3_gustAt, Cond.code yX3_gustAt cX3_gustAt 2 (some .int), Cond.fieldLink RX3 16 "PumiceSledge" "gusts" "[I", Cond.methodLink RX3 269 yJ9_floorMod_7cf53, Cond.static yJ9_floorMod_7cf53, Cond.initialized RJ9, Cond.code yJ9_floorMod_7cf53 cJ9_floorMod_7cf53 3 (some .int), Cond.methodLink RX3 220 yX2_travel, Cond.instanceMethod yX2_travel, Cond.selects RX2 yX2_travel yX2_travel, Cond.code yX2_travel cX2_travel 3 none, Cond.methodLink RX2 42 yX2_comeDown, Cond.instanceMethod yX2_comeDown, Cond.selects RX2 yX2_comeDown yX2_comeDown]
def wsX3_arrives_r3 : List Cond := [Cond.code yX2_comeDown cX2_comeDown 3 none, Cond.methodLink RX2 54 Lib.Math.max.name, Cond.static Lib.Math.max.name, Cond.initialized "java/lang/Math", Cond.code Lib.Math.max.name Lib.Math.max.code 2 (some .int), Cond.methodLink RX2 60 yX2_unload, Cond.instanceMethod yX2_unload, Cond.selects RX2 yX2_unload yX2_unload, Cond.code yX2_unload cX2_unload 3 none, Cond.static yX3_kindOf, Cond.code yX3_kindOf cX3_kindOf 1 (some .int), Cond.methodLink RX2 46 yX2_comeUp, Cond.instanceMethod yX2_comeUp, Cond.selects RX2 yX2_comeUp yX2_comeUp, Cond.code yX2_comeUp cX2_comeUp 1 none, Cond.methodLink RX2 67 Lib.Math.min.name, Cond.static Lib.Math.min.name, Cond.code Lib.Math.min.name Lib.Math.min.code 2 (some .int)]
def wsX3_arrives : List Cond := .code yX3_arrives cX3_arrives 4 (some .int) :: ((wsX3_arrives_r1 ++ (wsX3_arrives_r2 ++ wsX3_arrives_r3)) ++ wsX30 ++ wsX20 ++ wsX10 ++ (vx_atS RX3 55 "java/lang/IndexOutOfBoundsException" ["java/lang/RuntimeException", "java/lang/Exception"]).filter goodWord)
def wsX3_advise_r1 : List Cond := [Cond.classLink RX3 51 "java/lang/IndexOutOfBoundsException", Cond.initialized "java/lang/IndexOutOfBoundsException", Cond.fieldLink RX3 27 "PumiceSledge" "boats" "[LPumiceSledge$Boat;", Cond.methodLink RX3 129 yX3_isBoat, Cond.instanceMethod yX3_isBoat, Cond.selects RX3 yX3_isBoat yX3_isBoat, Cond.initialized RX3, Cond.code yX3_isBoat cX3_isBoat 2 (some .boolean), Cond.fieldLink RX3 121 "PumiceSledge" "boatCount" "I", Cond.methodLink RX3 134 yX3_isKind, Cond.static yX3_isKind, Cond.code yX3_isKind cX3_isKind 1 (some .boolean), Cond.methodLink RX3 58 yX3_isWithin, Cond.static yX3_isWithin, Cond.code yX3_isWithin cX3_isWithin 3 (some .boolean), Cond.methodLink RX3 139 yX3_stowedWeight, Cond.static yX3_stowedWeight, Cond.code yX3_stowedWeight cX3_stowedWeight 1 (some .int), Cond.methodLink RX3 147 yX0_room, Cond.instanceMethod yX0_room, Cond.selects RX0 yX0_room yX0_room, Cond.initialized RX0, Cond.code yX0_room cX0_room 1 (some .int), Cond.fieldLink RX0 33 "PumiceSledge$Boat" "mostLoad" "I"]
def wsX3_advise_r2 : List Cond := [Cond.fieldLink RX0 7 "PumiceSledge$Boat" "fore" "I", Cond.fieldLink RX0 13 "PumiceSledge$Boat" "aft" "I", Cond.methodLink RX3 224 yX3_depthOf, Cond.static yX3_depthOf, Cond.code yX3_depthOf cX3_depthOf 2 (some .int), Cond.methodLink RX3 274 Lib.Math.abs.name, Cond.static Lib.Math.abs.name, Cond.initialized "java/lang/Math", Cond.code Lib.Math.abs.name Lib.Math.abs.code 1 (some .int)]
def wsX3_advise : List Cond := .code yX3_advise cX3_advise 7 (some .int) :: ((wsX3_advise_r1 ++ wsX3_advise_r2) ++ wsX30 ++ wsX00 ++ (vx_atS RX3 55 "java/lang/IndexOutOfBoundsException" ["java/lang/RuntimeException", "java/lang/Exception"]).filter goodWord)
def wsX3_aboardBehind_r1 : List Cond := [Cond.fieldLink RX3 39 "PumiceSledge" "trial" "LPumiceSledge$Sledge;", Cond.fieldLink RX3 193 "PumiceSledge" "hour" "I", Cond.fieldLink RX3 43 "PumiceSledge" "trialShore" "LPumiceSledge$Shore;", Cond.methodLink RX3 216 yX2_become, Cond.instanceMethod yX2_become, Cond.selects RX2 yX2_become yX2_become, Cond.initialized RX2, Cond.code yX2_become cX2_become 2 none, Cond.fieldLink RX2 25 "PumiceSledge$Sledge" "holds" "I", Cond.fieldLink RX2 9 "PumiceSledge$Sledge" "weights" "[I", Cond.methodLink RX2 36 arraycopyName, Cond.native arraycopyName, Cond.static arraycopyName, Cond.initialized "java/lang/System", Cond.fieldLink RX2 22 "PumiceSledge$Sledge" "aboard" "I", Cond.fieldLink RX2 15 "PumiceSledge$Sledge" "height" "I", Cond.fieldLink RX2 19 "PumiceSledge$Sledge" "course" "I", Cond.methodLink RX3 196 yX3_gustAt, Cond.instanceMethod yX3_gustAt, Cond.selects RX3 yX3_gustAt yX3_gustAt, Cond.initialized RX3, Cond.code yX3_gustAt cX3_gustAt 2 (some .int), Cond.fieldLink RX3 16 "PumiceSledge" "gusts" "[I", Cond.methodLink RX3 269 yJ9_floorMod_7cf53]
def wsX3_aboardBehind_r2 : List Cond := [Cond.static yJ9_floorMod_7cf53, Cond.initialized RJ9, Cond.code yJ9_floorMod_7cf53 cJ9_floorMod_7cf53 3 (some .int), Cond.methodLink RX3 220 yX2_travel, Cond.instanceMethod yX2_travel, Cond.selects RX2 yX2_travel yX2_travel, Cond.code yX2_travel cX2_travel 3 none, Cond.methodLink RX2 42 yX2_comeDown, Cond.instanceMethod yX2_comeDown, Cond.selects RX2 yX2_comeDown yX2_comeDown, Cond.code yX2_comeDown cX2_comeDown 3 none, Cond.methodLink RX2 54 Lib.Math.max.name, Cond.static Lib.Math.max.name, Cond.initialized "java/lang/Math", Cond.code Lib.Math.max.name Lib.Math.max.code 2 (some .int), Cond.methodLink RX2 60 yX2_unload, Cond.instanceMethod yX2_unload, Cond.selects RX2 yX2_unload yX2_unload, Cond.code yX2_unload cX2_unload 3 none, Cond.static yX3_kindOf, Cond.code yX3_kindOf cX3_kindOf 1 (some .int), Cond.methodLink RX2 46 yX2_comeUp, Cond.instanceMethod yX2_comeUp, Cond.selects RX2 yX2_comeUp yX2_comeUp]
def wsX3_aboardBehind_r3 : List Cond := [Cond.code yX2_comeUp cX2_comeUp 1 none, Cond.methodLink RX2 67 Lib.Math.min.name, Cond.static Lib.Math.min.name, Cond.code Lib.Math.min.name Lib.Math.min.code 2 (some .int)]
def wsX3_aboardBehind : List Cond := .code yX3_aboardBehind cX3_aboardBehind 4 (some .int) :: ((wsX3_aboardBehind_r1 ++ (wsX3_aboardBehind_r2 ++ wsX3_aboardBehind_r3)) ++ wsX30 ++ wsX20 ++ wsX10)
def wsX3_foresee_r1 : List Cond := [Cond.classLink RX3 62 "java/lang/IllegalArgumentException", Cond.initialized "java/lang/IllegalArgumentException", Cond.classLink RX3 51 "java/lang/IndexOutOfBoundsException", Cond.initialized "java/lang/IndexOutOfBoundsException", Cond.fieldLink RX3 43 "PumiceSledge" "trialShore" "LPumiceSledge$Shore;", Cond.fieldLink RX3 34 "PumiceSledge" "shore" "LPumiceSledge$Shore;", Cond.fieldLink RX3 75 "PumiceSledge" "sledgeCount" "I", Cond.fieldLink RX3 21 "PumiceSledge" "sledges" "[LPumiceSledge$Sledge;", Cond.methodLink RX3 58 yX3_isWithin, Cond.static yX3_isWithin, Cond.initialized RX3, Cond.code yX3_isWithin cX3_isWithin 3 (some .boolean), Cond.methodLink RX3 230 yX1_become, Cond.instanceMethod yX1_become, Cond.selects RX1 yX1_become yX1_become, Cond.initialized RX1, Cond.code yX1_become cX1_become 2 none, Cond.fieldLink RX1 9 "PumiceSledge$Shore" "sacks" "[I", Cond.methodLink RX1 15 arraycopyName, Cond.native arraycopyName, Cond.static arraycopyName, Cond.initialized "java/lang/System", Cond.fieldLink RX1 21 "PumiceSledge$Shore" "lost" "I", Cond.methodLink RX3 233 yX3_aboardBehind]
def wsX3_foresee_r2 : List Cond := [Cond.instanceMethod yX3_aboardBehind, Cond.selects RX3 yX3_aboardBehind yX3_aboardBehind, Cond.code yX3_aboardBehind cX3_aboardBehind 4 (some .int), Cond.fieldLink RX3 39 "PumiceSledge" "trial" "LPumiceSledge$Sledge;", Cond.fieldLink RX3 193 "PumiceSledge" "hour" "I", Cond.methodLink RX3 216 yX2_become, Cond.instanceMethod yX2_become, Cond.selects RX2 yX2_become yX2_become, Cond.initialized RX2, Cond.code yX2_become cX2_become 2 none, Cond.fieldLink RX2 25 "PumiceSledge$Sledge" "holds" "I", Cond.fieldLink RX2 9 "PumiceSledge$Sledge" "weights" "[I", Cond.methodLink RX2 36 arraycopyName, Cond.fieldLink RX2 22 "PumiceSledge$Sledge" "aboard" "I", Cond.fieldLink RX2 15 "PumiceSledge$Sledge" "height" "I", Cond.fieldLink RX2 19 "PumiceSledge$Sledge" "course" "I", Cond.methodLink RX3 196 yX3_gustAt, Cond.instanceMethod yX3_gustAt, Cond.selects RX3 yX3_gustAt yX3_gustAt, Cond.code yX3_gustAt cX3_gustAt 2 (some .int), Cond.fieldLink RX3 16 "PumiceSledge" "gusts" "[I", Cond.methodLink RX3 269 yJ9_floorMod_7cf53, Cond.static yJ9_floorMod_7cf53, Cond.initialized RJ9]
def wsX3_foresee_r3 : List Cond := [Cond.code yJ9_floorMod_7cf53 cJ9_floorMod_7cf53 3 (some .int), Cond.methodLink RX3 220 yX2_travel, Cond.instanceMethod yX2_travel, Cond.selects RX2 yX2_travel yX2_travel, Cond.code yX2_travel cX2_travel 3 none, Cond.methodLink RX2 42 yX2_comeDown, Cond.instanceMethod yX2_comeDown, Cond.selects RX2 yX2_comeDown yX2_comeDown, Cond.code yX2_comeDown cX2_comeDown 3 none, Cond.methodLink RX2 54 Lib.Math.max.name, Cond.static Lib.Math.max.name, Cond.initialized "java/lang/Math", Cond.code Lib.Math.max.name Lib.Math.max.code 2 (some .int), Cond.methodLink RX2 60 yX2_unload, Cond.instanceMethod yX2_unload, Cond.selects RX2 yX2_unload yX2_unload, Cond.code yX2_unload cX2_unload 3 none, Cond.static yX3_kindOf, Cond.code yX3_kindOf cX3_kindOf 1 (some .int), Cond.methodLink RX2 46 yX2_comeUp, Cond.instanceMethod yX2_comeUp, Cond.selects RX2 yX2_comeUp yX2_comeUp, Cond.code yX2_comeUp cX2_comeUp 1 none, Cond.methodLink RX2 67 Lib.Math.min.name]
def wsX3_foresee_r4 : List Cond := [Cond.static Lib.Math.min.name, Cond.code Lib.Math.min.name Lib.Math.min.code 2 (some .int), Cond.methodLink RX3 202 yX1_allSacks, Cond.instanceMethod yX1_allSacks, Cond.selects RX1 yX1_allSacks yX1_allSacks, Cond.code yX1_allSacks cX1_allSacks 1 (some .int)]
def wsX3_foresee : List Cond := .code yX3_foresee cX3_foresee 5 (some .int) :: ((wsX3_foresee_r1 ++ (wsX3_foresee_r2 ++ (wsX3_foresee_r3 ++ wsX3_foresee_r4))) ++ wsX30 ++ wsX10 ++ wsX20 ++ (vx_atS RX3 66 "java/lang/IllegalArgumentException" ["java/lang/RuntimeException", "java/lang/Exception"]).filter goodWord ++ (vx_atS RX3 55 "java/lang/IndexOutOfBoundsException" ["java/lang/RuntimeException", "java/lang/Exception"]).filter goodWord)
def wsX3_mean : List Cond := .code yX3_mean cX3_mean 4 (some .double) :: ([.fieldLink RX3 75 "PumiceSledge" "sledgeCount" "I", .fieldLink RX3 21 "PumiceSledge" "sledges" "[LPumiceSledge$Sledge;", .methodLink RX3 199 yX3_sacksAboard, .instanceMethod yX3_sacksAboard, .selects RX3 yX3_sacksAboard yX3_sacksAboard, .initialized RX3, .code yX3_sacksAboard cX3_sacksAboard 3 (some .int), .methodLink RX3 180 yX2_weightAboard, .instanceMethod yX2_weightAboard, .selects RX2 yX2_weightAboard yX2_weightAboard, .initialized RX2, .code yX2_weightAboard cX2_weightAboard 3 (some .int), .fieldLink RX2 22 "PumiceSledge$Sledge" "aboard" "I", .fieldLink RX2 9 "PumiceSledge$Sledge" "weights" "[I"] ++ wsX30 ++ wsX20)
def wsX3_mixed : List Cond := .code yX3_mixed cX3_mixed 3 (some .long) :: ([.constantLong RX3 267 (31)])
def wsX3_withLayer_r1 : List Cond := [Cond.methodLink RX3 255 yX3_layer, Cond.instanceMethod yX3_layer, Cond.selects RX3 yX3_layer yX3_layer, Cond.initialized RX3, Cond.code yX3_layer cX3_layer 3 (some .int), Cond.classLink RX3 51 "java/lang/IndexOutOfBoundsException", Cond.initialized "java/lang/IndexOutOfBoundsException", Cond.fieldLink RX3 9 "PumiceSledge" "stones" "[I", Cond.fieldLink RX3 13 "PumiceSledge" "stoneWeights" "[I", Cond.methodLink RX3 47 yX3_isLayer, Cond.static yX3_isLayer, Cond.code yX3_isLayer cX3_isLayer 1 (some .boolean), Cond.methodLink RX3 58 yX3_isWithin, Cond.static yX3_isWithin, Cond.code yX3_isWithin cX3_isWithin 3 (some .boolean), Cond.methodLink RX3 105 yX3_sackWeight, Cond.instanceMethod yX3_sackWeight, Cond.selects RX3 yX3_sackWeight yX3_sackWeight, Cond.code yX3_sackWeight cX3_sackWeight 2 (some .int), Cond.methodLink RX3 113 yX3_kindOf, Cond.static yX3_kindOf, Cond.code yX3_kindOf cX3_kindOf 1 (some .int), Cond.methodLink RX3 242 yX3_mixed, Cond.static yX3_mixed]
def wsX3_withLayer_r2 : List Cond := [Cond.code yX3_mixed cX3_mixed 3 (some .long), Cond.constantLong RX3 267 (31)]
def wsX3_withLayer : List Cond := .code yX3_withLayer cX3_withLayer 5 (some .long) :: ((wsX3_withLayer_r1 ++ wsX3_withLayer_r2) ++ wsX30 ++ (vx_atS RX3 55 "java/lang/IndexOutOfBoundsException" ["java/lang/RuntimeException", "java/lang/Exception"]).filter goodWord)
def wsX3_withSledge_r1 : List Cond := [Cond.fieldLink RX3 21 "PumiceSledge" "sledges" "[LPumiceSledge$Sledge;", Cond.methodLink RX3 258 yX3_told, Cond.instanceMethod yX3_told, Cond.selects RX3 yX3_told yX3_told, Cond.initialized RX3, Cond.code yX3_told cX3_told 4 (some .int), Cond.classLink RX3 51 "java/lang/IndexOutOfBoundsException", Cond.initialized "java/lang/IndexOutOfBoundsException", Cond.methodLink RX3 87 yX3_isSledge, Cond.instanceMethod yX3_isSledge, Cond.selects RX3 yX3_isSledge yX3_isSledge, Cond.code yX3_isSledge cX3_isSledge 2 (some .boolean), Cond.fieldLink RX3 75 "PumiceSledge" "sledgeCount" "I", Cond.methodLink RX3 58 yX3_isWithin, Cond.static yX3_isWithin, Cond.code yX3_isWithin cX3_isWithin 3 (some .boolean), Cond.methodLink RX3 180 yX2_weightAboard, Cond.instanceMethod yX2_weightAboard, Cond.selects RX2 yX2_weightAboard yX2_weightAboard, Cond.initialized RX2, Cond.code yX2_weightAboard cX2_weightAboard 3 (some .int), Cond.fieldLink RX2 22 "PumiceSledge$Sledge" "aboard" "I", Cond.fieldLink RX2 9 "PumiceSledge$Sledge" "weights" "[I", Cond.methodLink RX3 183 yX2_lastKind]
def wsX3_withSledge_r2 : List Cond := [Cond.instanceMethod yX2_lastKind, Cond.selects RX2 yX2_lastKind yX2_lastKind, Cond.code yX2_lastKind cX2_lastKind 1 (some .int), Cond.static yX3_kindOf, Cond.code yX3_kindOf cX3_kindOf 1 (some .int), Cond.methodLink RX3 242 yX3_mixed, Cond.static yX3_mixed, Cond.code yX3_mixed cX3_mixed 3 (some .long), Cond.constantLong RX3 267 (31)]
def wsX3_withSledge : List Cond := .code yX3_withSledge cX3_withSledge 6 (some .long) :: ((wsX3_withSledge_r1 ++ wsX3_withSledge_r2) ++ wsX30 ++ wsX20 ++ (vx_atS RX3 55 "java/lang/IndexOutOfBoundsException" ["java/lang/RuntimeException", "java/lang/Exception"]).filter goodWord)
def wsX3_withBoat_r1 : List Cond := [Cond.methodLink RX3 264 yX3_boat, Cond.instanceMethod yX3_boat, Cond.selects RX3 yX3_boat yX3_boat, Cond.initialized RX3, Cond.code yX3_boat cX3_boat 4 (some .int), Cond.classLink RX3 51 "java/lang/IndexOutOfBoundsException", Cond.initialized "java/lang/IndexOutOfBoundsException", Cond.fieldLink RX3 27 "PumiceSledge" "boats" "[LPumiceSledge$Boat;", Cond.methodLink RX3 129 yX3_isBoat, Cond.instanceMethod yX3_isBoat, Cond.selects RX3 yX3_isBoat yX3_isBoat, Cond.code yX3_isBoat cX3_isBoat 2 (some .boolean), Cond.fieldLink RX3 121 "PumiceSledge" "boatCount" "I", Cond.methodLink RX3 58 yX3_isWithin, Cond.static yX3_isWithin, Cond.code yX3_isWithin cX3_isWithin 3 (some .boolean), Cond.methodLink RX3 159 yX0_trim, Cond.instanceMethod yX0_trim, Cond.selects RX0 yX0_trim yX0_trim, Cond.initialized RX0, Cond.code yX0_trim cX0_trim 1 (some .int), Cond.fieldLink RX0 7 "PumiceSledge$Boat" "fore" "I", Cond.fieldLink RX0 13 "PumiceSledge$Boat" "aft" "I", Cond.methodLink RX3 188 yX0_depth]
def wsX3_withBoat_r2 : List Cond := [Cond.instanceMethod yX0_depth, Cond.selects RX0 yX0_depth yX0_depth, Cond.code yX0_depth cX0_depth 1 (some .int), Cond.static yX3_depthOf, Cond.code yX3_depthOf cX3_depthOf 2 (some .int), Cond.methodLink RX3 274 Lib.Math.abs.name, Cond.static Lib.Math.abs.name, Cond.initialized "java/lang/Math", Cond.code Lib.Math.abs.name Lib.Math.abs.code 1 (some .int), Cond.methodLink RX3 162 yX0_canSail, Cond.instanceMethod yX0_canSail, Cond.selects RX0 yX0_canSail yX0_canSail, Cond.code yX0_canSail cX0_canSail 1 (some .boolean), Cond.methodLink RX0 22 yX0_depth, Cond.methodLink RX0 26 yX0_trim, Cond.methodLink RX3 147 yX0_room, Cond.instanceMethod yX0_room, Cond.selects RX0 yX0_room yX0_room, Cond.code yX0_room cX0_room 1 (some .int), Cond.fieldLink RX0 33 "PumiceSledge$Boat" "mostLoad" "I", Cond.methodLink RX3 242 yX3_mixed, Cond.static yX3_mixed, Cond.code yX3_mixed cX3_mixed 3 (some .long), Cond.constantLong RX3 267 (31)]
def wsX3_withBoat : List Cond := .code yX3_withBoat cX3_withBoat 5 (some .long) :: ((wsX3_withBoat_r1 ++ wsX3_withBoat_r2) ++ wsX30 ++ wsX00 ++ (vx_atS RX3 55 "java/lang/IndexOutOfBoundsException" ["java/lang/RuntimeException", "java/lang/Exception"]).filter goodWord)
def wsX3_digest_r1 : List Cond := [Cond.constantLong RX3 237 (1321), Cond.fieldLink RX3 16 "PumiceSledge" "gusts" "[I", Cond.fieldLink RX3 75 "PumiceSledge" "sledgeCount" "I", Cond.fieldLink RX3 121 "PumiceSledge" "boatCount" "I", Cond.fieldLink RX3 34 "PumiceSledge" "shore" "LPumiceSledge$Shore;", Cond.methodLink RX3 239 yX3_count, Cond.instanceMethod yX3_count, Cond.selects RX3 yX3_count yX3_count, Cond.initialized RX3, Cond.code yX3_count cX3_count 2 (some .int), Cond.classLink RX3 51 "java/lang/IndexOutOfBoundsException", Cond.initialized "java/lang/IndexOutOfBoundsException", Cond.fieldLink RX3 193 "PumiceSledge" "hour" "I", Cond.fieldLink RX3 170 "PumiceSledge" "coins" "I", Cond.methodLink RX3 58 yX3_isWithin, Cond.static yX3_isWithin, Cond.code yX3_isWithin cX3_isWithin 3 (some .boolean), Cond.methodLink RX3 196 yX3_gustAt, Cond.instanceMethod yX3_gustAt, Cond.selects RX3 yX3_gustAt yX3_gustAt, Cond.code yX3_gustAt cX3_gustAt 2 (some .int), Cond.methodLink RX3 269 yJ9_floorMod_7cf53, Cond.static yJ9_floorMod_7cf53, Cond.initialized RJ9]
def wsX3_digest_r2 : List Cond := [Cond.code yJ9_floorMod_7cf53 cJ9_floorMod_7cf53 3 (some .int), Cond.methodLink RX3 199 yX3_sacksAboard, Cond.instanceMethod yX3_sacksAboard, Cond.selects RX3 yX3_sacksAboard yX3_sacksAboard, Cond.code yX3_sacksAboard cX3_sacksAboard 3 (some .int), Cond.fieldLink RX3 21 "PumiceSledge" "sledges" "[LPumiceSledge$Sledge;", Cond.methodLink RX3 202 yX1_allSacks, Cond.instanceMethod yX1_allSacks, Cond.selects RX1 yX1_allSacks yX1_allSacks, Cond.initialized RX1, Cond.code yX1_allSacks cX1_allSacks 1 (some .int), Cond.fieldLink RX1 9 "PumiceSledge$Shore" "sacks" "[I", Cond.methodLink RX3 208 yX3_allStones, Cond.instanceMethod yX3_allStones, Cond.selects RX3 yX3_allStones yX3_allStones, Cond.code yX3_allStones cX3_allStones 3 (some .int), Cond.fieldLink RX3 9 "PumiceSledge" "stones" "[I", Cond.methodLink RX3 242 yX3_mixed, Cond.static yX3_mixed, Cond.code yX3_mixed cX3_mixed 3 (some .long), Cond.constantLong RX3 267 (31), Cond.methodLink RX3 246 yX3_withLayer, Cond.instanceMethod yX3_withLayer, Cond.selects RX3 yX3_withLayer yX3_withLayer]
def wsX3_digest_r3 : List Cond := [Cond.code yX3_withLayer cX3_withLayer 5 (some .long), Cond.methodLink RX3 255 yX3_layer, Cond.instanceMethod yX3_layer, Cond.selects RX3 yX3_layer yX3_layer, Cond.code yX3_layer cX3_layer 3 (some .int), Cond.fieldLink RX3 13 "PumiceSledge" "stoneWeights" "[I", Cond.methodLink RX3 47 yX3_isLayer, Cond.static yX3_isLayer, Cond.code yX3_isLayer cX3_isLayer 1 (some .boolean), Cond.methodLink RX3 105 yX3_sackWeight, Cond.instanceMethod yX3_sackWeight, Cond.selects RX3 yX3_sackWeight yX3_sackWeight, Cond.code yX3_sackWeight cX3_sackWeight 2 (some .int), Cond.methodLink RX3 113 yX3_kindOf, Cond.static yX3_kindOf, Cond.code yX3_kindOf cX3_kindOf 1 (some .int), Cond.methodLink RX3 249 yX3_withSledge, Cond.instanceMethod yX3_withSledge, Cond.selects RX3 yX3_withSledge yX3_withSledge, Cond.code yX3_withSledge cX3_withSledge 6 (some .long), Cond.methodLink RX3 258 yX3_told, Cond.instanceMethod yX3_told, Cond.selects RX3 yX3_told yX3_told, Cond.code yX3_told cX3_told 4 (some .int)]
def wsX3_digest_r4 : List Cond := [Cond.methodLink RX3 87 yX3_isSledge, Cond.instanceMethod yX3_isSledge, Cond.selects RX3 yX3_isSledge yX3_isSledge, Cond.code yX3_isSledge cX3_isSledge 2 (some .boolean), Cond.methodLink RX3 180 yX2_weightAboard, Cond.instanceMethod yX2_weightAboard, Cond.selects RX2 yX2_weightAboard yX2_weightAboard, Cond.initialized RX2, Cond.code yX2_weightAboard cX2_weightAboard 3 (some .int), Cond.fieldLink RX2 22 "PumiceSledge$Sledge" "aboard" "I", Cond.fieldLink RX2 9 "PumiceSledge$Sledge" "weights" "[I", Cond.methodLink RX3 183 yX2_lastKind, Cond.instanceMethod yX2_lastKind, Cond.selects RX2 yX2_lastKind yX2_lastKind, Cond.code yX2_lastKind cX2_lastKind 1 (some .int), Cond.methodLink RX3 252 yX3_withBoat, Cond.instanceMethod yX3_withBoat, Cond.selects RX3 yX3_withBoat yX3_withBoat, Cond.code yX3_withBoat cX3_withBoat 5 (some .long), Cond.methodLink RX3 264 yX3_boat, Cond.instanceMethod yX3_boat, Cond.selects RX3 yX3_boat yX3_boat, Cond.code yX3_boat cX3_boat 4 (some .int), Cond.fieldLink RX3 27 "PumiceSledge" "boats" "[LPumiceSledge$Boat;"]
def wsX3_digest_r5 : List Cond := [Cond.methodLink RX3 129 yX3_isBoat, Cond.instanceMethod yX3_isBoat, Cond.selects RX3 yX3_isBoat yX3_isBoat, Cond.code yX3_isBoat cX3_isBoat 2 (some .boolean), Cond.methodLink RX3 159 yX0_trim, Cond.instanceMethod yX0_trim, Cond.selects RX0 yX0_trim yX0_trim, Cond.initialized RX0, Cond.code yX0_trim cX0_trim 1 (some .int), Cond.fieldLink RX0 7 "PumiceSledge$Boat" "fore" "I", Cond.fieldLink RX0 13 "PumiceSledge$Boat" "aft" "I", Cond.methodLink RX3 188 yX0_depth, Cond.instanceMethod yX0_depth, Cond.selects RX0 yX0_depth yX0_depth, Cond.code yX0_depth cX0_depth 1 (some .int), Cond.static yX3_depthOf, Cond.code yX3_depthOf cX3_depthOf 2 (some .int), Cond.methodLink RX3 274 Lib.Math.abs.name, Cond.static Lib.Math.abs.name, Cond.initialized "java/lang/Math", Cond.code Lib.Math.abs.name Lib.Math.abs.code 1 (some .int), Cond.methodLink RX3 162 yX0_canSail, Cond.instanceMethod yX0_canSail, Cond.selects RX0 yX0_canSail yX0_canSail]
def wsX3_digest_r6 : List Cond := [Cond.code yX0_canSail cX0_canSail 1 (some .boolean), Cond.methodLink RX0 22 yX0_depth, Cond.methodLink RX0 26 yX0_trim, Cond.methodLink RX3 147 yX0_room, Cond.instanceMethod yX0_room, Cond.selects RX0 yX0_room yX0_room, Cond.code yX0_room cX0_room 1 (some .int), Cond.fieldLink RX0 33 "PumiceSledge$Boat" "mostLoad" "I"]
def wsX3_digest : List Cond := .code yX3_digest cX3_digest 4 (some .long) :: ((wsX3_digest_r1 ++ (wsX3_digest_r2 ++ (wsX3_digest_r3 ++ (wsX3_digest_r4 ++ (wsX3_digest_r5 ++ wsX3_digest_r6))))) ++ wsX30 ++ wsX10 ++ wsX20 ++ wsX00 ++ (vx_atS RX3 55 "java/lang/IndexOutOfBoundsException" ["java/lang/RuntimeException", "java/lang/Exception"]).filter goodWord)
def wsX4_init : List Cond := .code yX4_init cX4_init 1 none :: ([.methodLink RX4 3 objectInit, .instanceMethod objectInit, .code objectInit ⟨#[0xb1]⟩ 1 none, .arrayClass .int, .fieldLink RX4 9 "PumiceSledgeModel" "stones" "[I", .fieldLink RX4 13 "PumiceSledgeModel" "weights" "[I", .fieldLink RX4 16 "PumiceSledgeModel" "gusts" "[I", .fieldLink RX4 19 "PumiceSledgeModel" "slope" "[I", .fieldLink RX4 22 "PumiceSledgeModel" "fleet" "[I", .fieldLink RX4 25 "PumiceSledgeModel" "numbers" "[I"] ++ wsX40)
def wsX4_thrown : List Cond := .code yX4_thrown cX4_thrown 1 (some .int) :: ([.fieldLink RX4 28 "PumiceSledgeModel" "thrown" "I"] ++ wsX40)
def wsX4_fail : List Cond := .code yX4_fail cX4_fail 2 (some .int) :: ([.fieldLink RX4 28 "PumiceSledgeModel" "thrown" "I"] ++ wsX40)
def wsX4_isIn : List Cond := .code yX4_isIn cX4_isIn 3 (some .boolean) :: ([])
def wsX4_isSledge : List Cond := .code yX4_isSledge cX4_isSledge 2 (some .boolean) :: ([.fieldLink RX4 32 "PumiceSledgeModel" "sledges" "I", .methodLink RX4 35 yX4_isIn, .static yX4_isIn, .initialized RX4, .code yX4_isIn cX4_isIn 3 (some .boolean)] ++ wsX40)
def wsX4_isBoat : List Cond := .code yX4_isBoat cX4_isBoat 2 (some .boolean) :: ([.fieldLink RX4 39 "PumiceSledgeModel" "boats" "I", .methodLink RX4 35 yX4_isIn, .static yX4_isIn, .initialized RX4, .code yX4_isIn cX4_isIn 3 (some .boolean)] ++ wsX40)
def wsX4_isLayer : List Cond := .code yX4_isLayer cX4_isLayer 1 (some .boolean) :: ([.methodLink RX4 35 yX4_isIn, .static yX4_isIn, .initialized RX4, .code yX4_isIn cX4_isIn 3 (some .boolean)])
def wsX4_sl : List Cond := .code yX4_sl cX4_sl 3 (some .int) :: ([.fieldLink RX4 19 "PumiceSledgeModel" "slope" "[I"] ++ wsX40)
def wsX4_put : List Cond := .code yX4_put cX4_put 4 none :: ([.fieldLink RX4 19 "PumiceSledgeModel" "slope" "[I"] ++ wsX40)
def wsX4_bo : List Cond := .code yX4_bo cX4_bo 3 (some .int) :: ([.fieldLink RX4 22 "PumiceSledgeModel" "fleet" "[I"] ++ wsX40)
def wsX4_set : List Cond := .code yX4_set cX4_set 5 (some .int) :: ([.fieldLink RX4 28 "PumiceSledgeModel" "thrown" "I", .fieldLink RX4 9 "PumiceSledgeModel" "stones" "[I", .fieldLink RX4 13 "PumiceSledgeModel" "weights" "[I", .methodLink RX4 42 yX4_isLayer, .static yX4_isLayer, .initialized RX4, .code yX4_isLayer cX4_isLayer 1 (some .boolean), .methodLink RX4 35 yX4_isIn, .static yX4_isIn, .code yX4_isIn cX4_isIn 3 (some .boolean), .methodLink RX4 46 yX4_fail, .instanceMethod yX4_fail, .selects RX4 yX4_fail yX4_fail, .code yX4_fail cX4_fail 2 (some .int)] ++ wsX40)
def wsX4_setGust : List Cond := .code yX4_setGust cX4_setGust 4 (some .int) :: ([.fieldLink RX4 28 "PumiceSledgeModel" "thrown" "I", .fieldLink RX4 16 "PumiceSledgeModel" "gusts" "[I", .methodLink RX4 35 yX4_isIn, .static yX4_isIn, .initialized RX4, .code yX4_isIn cX4_isIn 3 (some .boolean), .methodLink RX4 46 yX4_fail, .instanceMethod yX4_fail, .selects RX4 yX4_fail yX4_fail, .code yX4_fail cX4_fail 2 (some .int)] ++ wsX40)
def wsX4_build : List Cond := .code yX4_build cX4_build 2 (some .int) :: ([.fieldLink RX4 28 "PumiceSledgeModel" "thrown" "I", .fieldLink RX4 32 "PumiceSledgeModel" "sledges" "I", .methodLink RX4 35 yX4_isIn, .static yX4_isIn, .initialized RX4, .code yX4_isIn cX4_isIn 3 (some .boolean), .methodLink RX4 46 yX4_fail, .instanceMethod yX4_fail, .selects RX4 yX4_fail yX4_fail, .code yX4_fail cX4_fail 2 (some .int), .methodLink RX4 50 yX4_put, .instanceMethod yX4_put, .selects RX4 yX4_put yX4_put, .code yX4_put cX4_put 4 none, .fieldLink RX4 19 "PumiceSledgeModel" "slope" "[I"] ++ wsX40)
def wsX4_kind : List Cond := .code yX4_kind cX4_kind 1 (some .int) :: ([])
def wsX4_fill_r1 : List Cond := [Cond.fieldLink RX4 28 "PumiceSledgeModel" "thrown" "I", Cond.fieldLink RX4 9 "PumiceSledgeModel" "stones" "[I", Cond.fieldLink RX4 13 "PumiceSledgeModel" "weights" "[I", Cond.methodLink RX4 54 yX4_isSledge, Cond.instanceMethod yX4_isSledge, Cond.selects RX4 yX4_isSledge yX4_isSledge, Cond.initialized RX4, Cond.code yX4_isSledge cX4_isSledge 2 (some .boolean), Cond.fieldLink RX4 32 "PumiceSledgeModel" "sledges" "I", Cond.methodLink RX4 35 yX4_isIn, Cond.static yX4_isIn, Cond.code yX4_isIn cX4_isIn 3 (some .boolean), Cond.methodLink RX4 42 yX4_isLayer, Cond.static yX4_isLayer, Cond.code yX4_isLayer cX4_isLayer 1 (some .boolean), Cond.methodLink RX4 46 yX4_fail, Cond.instanceMethod yX4_fail, Cond.selects RX4 yX4_fail yX4_fail, Cond.code yX4_fail cX4_fail 2 (some .int), Cond.methodLink RX4 57 yX4_sl, Cond.instanceMethod yX4_sl, Cond.selects RX4 yX4_sl yX4_sl, Cond.code yX4_sl cX4_sl 3 (some .int), Cond.fieldLink RX4 19 "PumiceSledgeModel" "slope" "[I"]
def wsX4_fill_r2 : List Cond := [Cond.methodLink RX4 50 yX4_put, Cond.instanceMethod yX4_put, Cond.selects RX4 yX4_put yX4_put, Cond.code yX4_put cX4_put 4 none, Cond.methodLink RX4 61 yX4_kind, Cond.static yX4_kind, Cond.code yX4_kind cX4_kind 1 (some .int)]
def wsX4_fill : List Cond := .code yX4_fill cX4_fill 3 (some .int) :: ((wsX4_fill_r1 ++ wsX4_fill_r2) ++ wsX40)
def wsX4_go : List Cond := .code yX4_go cX4_go 2 (some .int) :: ([.fieldLink RX4 28 "PumiceSledgeModel" "thrown" "I", .methodLink RX4 54 yX4_isSledge, .instanceMethod yX4_isSledge, .selects RX4 yX4_isSledge yX4_isSledge, .initialized RX4, .code yX4_isSledge cX4_isSledge 2 (some .boolean), .fieldLink RX4 32 "PumiceSledgeModel" "sledges" "I", .methodLink RX4 35 yX4_isIn, .static yX4_isIn, .code yX4_isIn cX4_isIn 3 (some .boolean), .methodLink RX4 46 yX4_fail, .instanceMethod yX4_fail, .selects RX4 yX4_fail yX4_fail, .code yX4_fail cX4_fail 2 (some .int), .methodLink RX4 57 yX4_sl, .instanceMethod yX4_sl, .selects RX4 yX4_sl yX4_sl, .code yX4_sl cX4_sl 3 (some .int), .fieldLink RX4 19 "PumiceSledgeModel" "slope" "[I", .methodLink RX4 50 yX4_put, .instanceMethod yX4_put, .selects RX4 yX4_put yX4_put, .code yX4_put cX4_put 4 none] ++ wsX40)
def wsX4_launch : List Cond := .code yX4_launch cX4_launch 2 (some .int) :: ([.fieldLink RX4 28 "PumiceSledgeModel" "thrown" "I", .fieldLink RX4 39 "PumiceSledgeModel" "boats" "I", .fieldLink RX4 22 "PumiceSledgeModel" "fleet" "[I", .methodLink RX4 35 yX4_isIn, .static yX4_isIn, .initialized RX4, .code yX4_isIn cX4_isIn 3 (some .boolean), .methodLink RX4 46 yX4_fail, .instanceMethod yX4_fail, .selects RX4 yX4_fail yX4_fail, .code yX4_fail cX4_fail 2 (some .int)] ++ wsX40)
def wsX4_all : List Cond := .code yX4_all cX4_all 2 (some .int) :: ([.methodLink RX4 64 yX4_bo, .instanceMethod yX4_bo, .selects RX4 yX4_bo yX4_bo, .initialized RX4, .code yX4_bo cX4_bo 3 (some .int), .fieldLink RX4 22 "PumiceSledgeModel" "fleet" "[I"] ++ wsX40)
def wsX4_stowed : List Cond := .code yX4_stowed cX4_stowed 1 (some .int) :: ([])
def wsX4_depth : List Cond := .code yX4_depth cX4_depth 2 (some .int) :: ([.methodLink RX4 67 Lib.Math.abs.name, .static Lib.Math.abs.name, .initialized "java/lang/Math", .code Lib.Math.abs.name Lib.Math.abs.code 1 (some .int)])
def wsX4_canSail : List Cond := .code yX4_canSail cX4_canSail 2 (some .boolean) :: ([.methodLink RX4 64 yX4_bo, .instanceMethod yX4_bo, .selects RX4 yX4_bo yX4_bo, .initialized RX4, .code yX4_bo cX4_bo 3 (some .int), .fieldLink RX4 22 "PumiceSledgeModel" "fleet" "[I", .methodLink RX4 72 yX4_depth, .static yX4_depth, .code yX4_depth cX4_depth 2 (some .int), .methodLink RX4 67 Lib.Math.abs.name, .static Lib.Math.abs.name, .initialized "java/lang/Math", .code Lib.Math.abs.name Lib.Math.abs.code 1 (some .int), .methodLink RX4 35 yX4_isIn, .static yX4_isIn, .code yX4_isIn cX4_isIn 3 (some .boolean)] ++ wsX40)
def wsX4_stow_r1 : List Cond := [Cond.fieldLink RX4 28 "PumiceSledgeModel" "thrown" "I", Cond.fieldLink RX4 25 "PumiceSledgeModel" "numbers" "[I", Cond.fieldLink RX4 22 "PumiceSledgeModel" "fleet" "[I", Cond.methodLink RX4 75 yX4_isBoat, Cond.instanceMethod yX4_isBoat, Cond.selects RX4 yX4_isBoat yX4_isBoat, Cond.initialized RX4, Cond.code yX4_isBoat cX4_isBoat 2 (some .boolean), Cond.fieldLink RX4 39 "PumiceSledgeModel" "boats" "I", Cond.methodLink RX4 35 yX4_isIn, Cond.static yX4_isIn, Cond.code yX4_isIn cX4_isIn 3 (some .boolean), Cond.methodLink RX4 46 yX4_fail, Cond.instanceMethod yX4_fail, Cond.selects RX4 yX4_fail yX4_fail, Cond.code yX4_fail cX4_fail 2 (some .int), Cond.methodLink RX4 78 yX4_all, Cond.instanceMethod yX4_all, Cond.selects RX4 yX4_all yX4_all, Cond.code yX4_all cX4_all 2 (some .int), Cond.methodLink RX4 64 yX4_bo, Cond.instanceMethod yX4_bo, Cond.selects RX4 yX4_bo yX4_bo, Cond.code yX4_bo cX4_bo 3 (some .int)]
def wsX4_stow_r2 : List Cond := [Cond.methodLink RX4 81 yX4_stowed, Cond.static yX4_stowed, Cond.code yX4_stowed cX4_stowed 1 (some .int)]
def wsX4_stow : List Cond := .code yX4_stow cX4_stow 4 (some .int) :: ((wsX4_stow_r1 ++ wsX4_stow_r2) ++ wsX40)
def wsX4_sail_r1 : List Cond := [Cond.fieldLink RX4 28 "PumiceSledgeModel" "thrown" "I", Cond.fieldLink RX4 22 "PumiceSledgeModel" "fleet" "[I", Cond.fieldLink RX4 25 "PumiceSledgeModel" "numbers" "[I", Cond.methodLink RX4 75 yX4_isBoat, Cond.instanceMethod yX4_isBoat, Cond.selects RX4 yX4_isBoat yX4_isBoat, Cond.initialized RX4, Cond.code yX4_isBoat cX4_isBoat 2 (some .boolean), Cond.fieldLink RX4 39 "PumiceSledgeModel" "boats" "I", Cond.methodLink RX4 35 yX4_isIn, Cond.static yX4_isIn, Cond.code yX4_isIn cX4_isIn 3 (some .boolean), Cond.methodLink RX4 46 yX4_fail, Cond.instanceMethod yX4_fail, Cond.selects RX4 yX4_fail yX4_fail, Cond.code yX4_fail cX4_fail 2 (some .int), Cond.methodLink RX4 84 yX4_canSail, Cond.instanceMethod yX4_canSail, Cond.selects RX4 yX4_canSail yX4_canSail, Cond.code yX4_canSail cX4_canSail 2 (some .boolean), Cond.methodLink RX4 64 yX4_bo, Cond.instanceMethod yX4_bo, Cond.selects RX4 yX4_bo yX4_bo, Cond.code yX4_bo cX4_bo 3 (some .int)]
def wsX4_sail_r2 : List Cond := [Cond.methodLink RX4 72 yX4_depth, Cond.static yX4_depth, Cond.code yX4_depth cX4_depth 2 (some .int), Cond.methodLink RX4 67 Lib.Math.abs.name, Cond.static Lib.Math.abs.name, Cond.initialized "java/lang/Math", Cond.code Lib.Math.abs.name Lib.Math.abs.code 1 (some .int), Cond.methodLink RX4 78 yX4_all, Cond.instanceMethod yX4_all, Cond.selects RX4 yX4_all yX4_all, Cond.code yX4_all cX4_all 2 (some .int)]
def wsX4_sail : List Cond := .code yX4_sail cX4_sail 3 (some .int) :: ((wsX4_sail_r1 ++ wsX4_sail_r2) ++ wsX40)
def wsX4_layerTold : List Cond := .code yX4_layerTold cX4_layerTold 3 (some .int) :: ([.fieldLink RX4 9 "PumiceSledgeModel" "stones" "[I", .fieldLink RX4 13 "PumiceSledgeModel" "weights" "[I", .methodLink RX4 61 yX4_kind, .static yX4_kind, .initialized RX4, .code yX4_kind cX4_kind 1 (some .int)] ++ wsX40)
def wsX4_layer : List Cond := .code yX4_layer cX4_layer 3 (some .int) :: ([.fieldLink RX4 28 "PumiceSledgeModel" "thrown" "I", .methodLink RX4 42 yX4_isLayer, .static yX4_isLayer, .initialized RX4, .code yX4_isLayer cX4_isLayer 1 (some .boolean), .methodLink RX4 35 yX4_isIn, .static yX4_isIn, .code yX4_isIn cX4_isIn 3 (some .boolean), .methodLink RX4 87 yX4_layerTold, .instanceMethod yX4_layerTold, .selects RX4 yX4_layerTold yX4_layerTold, .code yX4_layerTold cX4_layerTold 3 (some .int), .fieldLink RX4 9 "PumiceSledgeModel" "stones" "[I", .fieldLink RX4 13 "PumiceSledgeModel" "weights" "[I", .methodLink RX4 61 yX4_kind, .static yX4_kind, .code yX4_kind cX4_kind 1 (some .int), .methodLink RX4 46 yX4_fail, .instanceMethod yX4_fail, .selects RX4 yX4_fail yX4_fail, .code yX4_fail cX4_fail 2 (some .int)] ++ wsX40)
def wsX4_sledgeTold : List Cond := .code yX4_sledgeTold cX4_sledgeTold 6 (some .int) :: ([.methodLink RX4 57 yX4_sl, .instanceMethod yX4_sl, .selects RX4 yX4_sl yX4_sl, .initialized RX4, .code yX4_sl cX4_sl 3 (some .int), .fieldLink RX4 19 "PumiceSledgeModel" "slope" "[I", .methodLink RX4 61 yX4_kind, .static yX4_kind, .code yX4_kind cX4_kind 1 (some .int)] ++ wsX40)
def wsX4_told_r1 : List Cond := [Cond.fieldLink RX4 28 "PumiceSledgeModel" "thrown" "I", Cond.methodLink RX4 54 yX4_isSledge, Cond.instanceMethod yX4_isSledge, Cond.selects RX4 yX4_isSledge yX4_isSledge, Cond.initialized RX4, Cond.code yX4_isSledge cX4_isSledge 2 (some .boolean), Cond.fieldLink RX4 32 "PumiceSledgeModel" "sledges" "I", Cond.methodLink RX4 35 yX4_isIn, Cond.static yX4_isIn, Cond.code yX4_isIn cX4_isIn 3 (some .boolean), Cond.methodLink RX4 90 yX4_sledgeTold, Cond.instanceMethod yX4_sledgeTold, Cond.selects RX4 yX4_sledgeTold yX4_sledgeTold, Cond.code yX4_sledgeTold cX4_sledgeTold 6 (some .int), Cond.methodLink RX4 57 yX4_sl, Cond.instanceMethod yX4_sl, Cond.selects RX4 yX4_sl yX4_sl, Cond.code yX4_sl cX4_sl 3 (some .int), Cond.fieldLink RX4 19 "PumiceSledgeModel" "slope" "[I", Cond.methodLink RX4 61 yX4_kind, Cond.static yX4_kind, Cond.code yX4_kind cX4_kind 1 (some .int), Cond.methodLink RX4 46 yX4_fail, Cond.instanceMethod yX4_fail]
def wsX4_told_r2 : List Cond := [Cond.selects RX4 yX4_fail yX4_fail, Cond.code yX4_fail cX4_fail 2 (some .int)]
def wsX4_told : List Cond := .code yX4_told cX4_told 3 (some .int) :: ((wsX4_told_r1 ++ wsX4_told_r2) ++ wsX40)
def wsX4_boatTold : List Cond := .code yX4_boatTold cX4_boatTold 3 (some .int) :: ([.methodLink RX4 64 yX4_bo, .instanceMethod yX4_bo, .selects RX4 yX4_bo yX4_bo, .initialized RX4, .code yX4_bo cX4_bo 3 (some .int), .fieldLink RX4 22 "PumiceSledgeModel" "fleet" "[I", .methodLink RX4 72 yX4_depth, .static yX4_depth, .code yX4_depth cX4_depth 2 (some .int), .methodLink RX4 67 Lib.Math.abs.name, .static Lib.Math.abs.name, .initialized "java/lang/Math", .code Lib.Math.abs.name Lib.Math.abs.code 1 (some .int), .methodLink RX4 84 yX4_canSail, .instanceMethod yX4_canSail, .selects RX4 yX4_canSail yX4_canSail, .code yX4_canSail cX4_canSail 2 (some .boolean), .methodLink RX4 35 yX4_isIn, .static yX4_isIn, .code yX4_isIn cX4_isIn 3 (some .boolean), .methodLink RX4 78 yX4_all, .instanceMethod yX4_all, .selects RX4 yX4_all yX4_all, .code yX4_all cX4_all 2 (some .int)] ++ wsX40)
def wsX4_boat_r1 : List Cond := [Cond.fieldLink RX4 28 "PumiceSledgeModel" "thrown" "I", Cond.methodLink RX4 75 yX4_isBoat, Cond.instanceMethod yX4_isBoat, Cond.selects RX4 yX4_isBoat yX4_isBoat, Cond.initialized RX4, Cond.code yX4_isBoat cX4_isBoat 2 (some .boolean), Cond.fieldLink RX4 39 "PumiceSledgeModel" "boats" "I", Cond.methodLink RX4 35 yX4_isIn, Cond.static yX4_isIn, Cond.code yX4_isIn cX4_isIn 3 (some .boolean), Cond.methodLink RX4 93 yX4_boatTold, Cond.instanceMethod yX4_boatTold, Cond.selects RX4 yX4_boatTold yX4_boatTold, Cond.code yX4_boatTold cX4_boatTold 3 (some .int), Cond.methodLink RX4 64 yX4_bo, Cond.instanceMethod yX4_bo, Cond.selects RX4 yX4_bo yX4_bo, Cond.code yX4_bo cX4_bo 3 (some .int), Cond.fieldLink RX4 22 "PumiceSledgeModel" "fleet" "[I", Cond.methodLink RX4 72 yX4_depth, Cond.static yX4_depth, Cond.code yX4_depth cX4_depth 2 (some .int), Cond.methodLink RX4 67 Lib.Math.abs.name, Cond.static Lib.Math.abs.name]
def wsX4_boat_r2 : List Cond := [Cond.initialized "java/lang/Math", Cond.code Lib.Math.abs.name Lib.Math.abs.code 1 (some .int), Cond.methodLink RX4 84 yX4_canSail, Cond.instanceMethod yX4_canSail, Cond.selects RX4 yX4_canSail yX4_canSail, Cond.code yX4_canSail cX4_canSail 2 (some .boolean), Cond.methodLink RX4 78 yX4_all, Cond.instanceMethod yX4_all, Cond.selects RX4 yX4_all yX4_all, Cond.code yX4_all cX4_all 2 (some .int), Cond.methodLink RX4 46 yX4_fail, Cond.instanceMethod yX4_fail, Cond.selects RX4 yX4_fail yX4_fail, Cond.code yX4_fail cX4_fail 2 (some .int)]
def wsX4_boat : List Cond := .code yX4_boat cX4_boat 3 (some .int) :: ((wsX4_boat_r1 ++ wsX4_boat_r2) ++ wsX40)
def wsX4_beach : List Cond := .code yX4_beach cX4_beach 2 (some .int) :: ([.fieldLink RX4 28 "PumiceSledgeModel" "thrown" "I", .fieldLink RX4 25 "PumiceSledgeModel" "numbers" "[I", .methodLink RX4 35 yX4_isIn, .static yX4_isIn, .initialized RX4, .code yX4_isIn cX4_isIn 3 (some .boolean), .methodLink RX4 46 yX4_fail, .instanceMethod yX4_fail, .selects RX4 yX4_fail yX4_fail, .code yX4_fail cX4_fail 2 (some .int)] ++ wsX40)
def wsX4_gust : List Cond := .code yX4_gust cX4_gust 1 (some .int) :: ([.fieldLink RX4 16 "PumiceSledgeModel" "gusts" "[I", .fieldLink RX4 25 "PumiceSledgeModel" "numbers" "[I"] ++ wsX40)
def wsX4_aboard : List Cond := .code yX4_aboard cX4_aboard 3 (some .int) :: ([.fieldLink RX4 32 "PumiceSledgeModel" "sledges" "I", .methodLink RX4 57 yX4_sl, .instanceMethod yX4_sl, .selects RX4 yX4_sl yX4_sl, .initialized RX4, .code yX4_sl cX4_sl 3 (some .int), .fieldLink RX4 19 "PumiceSledgeModel" "slope" "[I"] ++ wsX40)
def wsX4_ashore : List Cond := .code yX4_ashore cX4_ashore 1 (some .int) :: ([.fieldLink RX4 25 "PumiceSledgeModel" "numbers" "[I"] ++ wsX40)
def wsX4_counted : List Cond := .code yX4_counted cX4_counted 7 (some .int) :: ([.fieldLink RX4 25 "PumiceSledgeModel" "numbers" "[I", .fieldLink RX4 32 "PumiceSledgeModel" "sledges" "I", .fieldLink RX4 39 "PumiceSledgeModel" "boats" "I", .fieldLink RX4 9 "PumiceSledgeModel" "stones" "[I", .methodLink RX4 96 yX4_gust, .instanceMethod yX4_gust, .selects RX4 yX4_gust yX4_gust, .initialized RX4, .code yX4_gust cX4_gust 1 (some .int), .fieldLink RX4 16 "PumiceSledgeModel" "gusts" "[I", .methodLink RX4 100 yX4_aboard, .instanceMethod yX4_aboard, .selects RX4 yX4_aboard yX4_aboard, .code yX4_aboard cX4_aboard 3 (some .int), .methodLink RX4 57 yX4_sl, .instanceMethod yX4_sl, .selects RX4 yX4_sl yX4_sl, .code yX4_sl cX4_sl 3 (some .int), .fieldLink RX4 19 "PumiceSledgeModel" "slope" "[I", .methodLink RX4 103 yX4_ashore, .instanceMethod yX4_ashore, .selects RX4 yX4_ashore yX4_ashore, .code yX4_ashore cX4_ashore 1 (some .int)] ++ wsX40)
def wsX4_count_r1 : List Cond := [Cond.fieldLink RX4 28 "PumiceSledgeModel" "thrown" "I", Cond.methodLink RX4 35 yX4_isIn, Cond.static yX4_isIn, Cond.initialized RX4, Cond.code yX4_isIn cX4_isIn 3 (some .boolean), Cond.methodLink RX4 106 yX4_counted, Cond.instanceMethod yX4_counted, Cond.selects RX4 yX4_counted yX4_counted, Cond.code yX4_counted cX4_counted 7 (some .int), Cond.fieldLink RX4 25 "PumiceSledgeModel" "numbers" "[I", Cond.fieldLink RX4 32 "PumiceSledgeModel" "sledges" "I", Cond.fieldLink RX4 39 "PumiceSledgeModel" "boats" "I", Cond.fieldLink RX4 9 "PumiceSledgeModel" "stones" "[I", Cond.methodLink RX4 96 yX4_gust, Cond.instanceMethod yX4_gust, Cond.selects RX4 yX4_gust yX4_gust, Cond.code yX4_gust cX4_gust 1 (some .int), Cond.fieldLink RX4 16 "PumiceSledgeModel" "gusts" "[I", Cond.methodLink RX4 100 yX4_aboard, Cond.instanceMethod yX4_aboard, Cond.selects RX4 yX4_aboard yX4_aboard, Cond.code yX4_aboard cX4_aboard 3 (some .int), Cond.methodLink RX4 57 yX4_sl, Cond.instanceMethod yX4_sl]
def wsX4_count_r2 : List Cond := [Cond.selects RX4 yX4_sl yX4_sl, Cond.code yX4_sl cX4_sl 3 (some .int), Cond.fieldLink RX4 19 "PumiceSledgeModel" "slope" "[I", Cond.methodLink RX4 103 yX4_ashore, Cond.instanceMethod yX4_ashore, Cond.selects RX4 yX4_ashore yX4_ashore, Cond.code yX4_ashore cX4_ashore 1 (some .int), Cond.methodLink RX4 46 yX4_fail, Cond.instanceMethod yX4_fail, Cond.selects RX4 yX4_fail yX4_fail, Cond.code yX4_fail cX4_fail 2 (some .int)]
def wsX4_count : List Cond := .code yX4_count cX4_count 2 (some .int) :: ((wsX4_count_r1 ++ wsX4_count_r2) ++ wsX40)
def wsX4_slide : List Cond := .code yX4_slide cX4_slide 2 none :: ([.fieldLink RX4 25 "PumiceSledgeModel" "numbers" "[I", .methodLink RX4 109 Lib.Math.max.name, .static Lib.Math.max.name, .initialized "java/lang/Math", .code Lib.Math.max.name Lib.Math.max.code 2 (some .int), .methodLink RX4 57 yX4_sl, .instanceMethod yX4_sl, .selects RX4 yX4_sl yX4_sl, .initialized RX4, .code yX4_sl cX4_sl 3 (some .int), .fieldLink RX4 19 "PumiceSledgeModel" "slope" "[I", .methodLink RX4 96 yX4_gust, .instanceMethod yX4_gust, .selects RX4 yX4_gust yX4_gust, .code yX4_gust cX4_gust 1 (some .int), .fieldLink RX4 16 "PumiceSledgeModel" "gusts" "[I", .methodLink RX4 50 yX4_put, .instanceMethod yX4_put, .selects RX4 yX4_put yX4_put, .code yX4_put cX4_put 4 none] ++ wsX40)
def wsX4_climb : List Cond := .code yX4_climb cX4_climb 2 none :: ([.methodLink RX4 112 Lib.Math.min.name, .static Lib.Math.min.name, .initialized "java/lang/Math", .code Lib.Math.min.name Lib.Math.min.code 2 (some .int), .methodLink RX4 57 yX4_sl, .instanceMethod yX4_sl, .selects RX4 yX4_sl yX4_sl, .initialized RX4, .code yX4_sl cX4_sl 3 (some .int), .fieldLink RX4 19 "PumiceSledgeModel" "slope" "[I", .methodLink RX4 50 yX4_put, .instanceMethod yX4_put, .selects RX4 yX4_put yX4_put, .code yX4_put cX4_put 4 none] ++ wsX40)
def wsX4_unload : List Cond := .code yX4_unload cX4_unload 3 none :: ([.fieldLink RX4 25 "PumiceSledgeModel" "numbers" "[I", .methodLink RX4 57 yX4_sl, .instanceMethod yX4_sl, .selects RX4 yX4_sl yX4_sl, .initialized RX4, .code yX4_sl cX4_sl 3 (some .int), .fieldLink RX4 19 "PumiceSledgeModel" "slope" "[I", .methodLink RX4 61 yX4_kind, .static yX4_kind, .code yX4_kind cX4_kind 1 (some .int), .methodLink RX4 50 yX4_put, .instanceMethod yX4_put, .selects RX4 yX4_put yX4_put, .code yX4_put cX4_put 4 none] ++ wsX40)
def wsX4_hourOn_r1 : List Cond := [Cond.fieldLink RX4 32 "PumiceSledgeModel" "sledges" "I", Cond.fieldLink RX4 25 "PumiceSledgeModel" "numbers" "[I", Cond.methodLink RX4 57 yX4_sl, Cond.instanceMethod yX4_sl, Cond.selects RX4 yX4_sl yX4_sl, Cond.initialized RX4, Cond.code yX4_sl cX4_sl 3 (some .int), Cond.fieldLink RX4 19 "PumiceSledgeModel" "slope" "[I", Cond.methodLink RX4 115 yX4_slide, Cond.instanceMethod yX4_slide, Cond.selects RX4 yX4_slide yX4_slide, Cond.code yX4_slide cX4_slide 2 none, Cond.methodLink RX4 109 Lib.Math.max.name, Cond.static Lib.Math.max.name, Cond.initialized "java/lang/Math", Cond.code Lib.Math.max.name Lib.Math.max.code 2 (some .int), Cond.methodLink RX4 96 yX4_gust, Cond.instanceMethod yX4_gust, Cond.selects RX4 yX4_gust yX4_gust, Cond.code yX4_gust cX4_gust 1 (some .int), Cond.fieldLink RX4 16 "PumiceSledgeModel" "gusts" "[I", Cond.methodLink RX4 50 yX4_put, Cond.instanceMethod yX4_put, Cond.selects RX4 yX4_put yX4_put]
def wsX4_hourOn_r2 : List Cond := [Cond.code yX4_put cX4_put 4 none, Cond.methodLink RX4 119 yX4_climb, Cond.instanceMethod yX4_climb, Cond.selects RX4 yX4_climb yX4_climb, Cond.code yX4_climb cX4_climb 2 none, Cond.methodLink RX4 112 Lib.Math.min.name, Cond.static Lib.Math.min.name, Cond.code Lib.Math.min.name Lib.Math.min.code 2 (some .int), Cond.methodLink RX4 122 yX4_unload, Cond.instanceMethod yX4_unload, Cond.selects RX4 yX4_unload yX4_unload, Cond.code yX4_unload cX4_unload 3 none, Cond.methodLink RX4 61 yX4_kind, Cond.static yX4_kind, Cond.code yX4_kind cX4_kind 1 (some .int)]
def wsX4_hourOn : List Cond := .code yX4_hourOn cX4_hourOn 2 none :: ((wsX4_hourOn_r1 ++ wsX4_hourOn_r2) ++ wsX40)
def wsX4_hoursOn_r1 : List Cond := [Cond.methodLink RX4 103 yX4_ashore, Cond.instanceMethod yX4_ashore, Cond.selects RX4 yX4_ashore yX4_ashore, Cond.initialized RX4, Cond.code yX4_ashore cX4_ashore 1 (some .int), Cond.fieldLink RX4 25 "PumiceSledgeModel" "numbers" "[I", Cond.methodLink RX4 125 yX4_hourOn, Cond.instanceMethod yX4_hourOn, Cond.selects RX4 yX4_hourOn yX4_hourOn, Cond.code yX4_hourOn cX4_hourOn 2 none, Cond.fieldLink RX4 32 "PumiceSledgeModel" "sledges" "I", Cond.methodLink RX4 57 yX4_sl, Cond.instanceMethod yX4_sl, Cond.selects RX4 yX4_sl yX4_sl, Cond.code yX4_sl cX4_sl 3 (some .int), Cond.fieldLink RX4 19 "PumiceSledgeModel" "slope" "[I", Cond.methodLink RX4 115 yX4_slide, Cond.instanceMethod yX4_slide, Cond.selects RX4 yX4_slide yX4_slide, Cond.code yX4_slide cX4_slide 2 none, Cond.methodLink RX4 109 Lib.Math.max.name, Cond.static Lib.Math.max.name, Cond.initialized "java/lang/Math", Cond.code Lib.Math.max.name Lib.Math.max.code 2 (some .int)]
def wsX4_hoursOn_r2 : List Cond := [Cond.methodLink RX4 96 yX4_gust, Cond.instanceMethod yX4_gust, Cond.selects RX4 yX4_gust yX4_gust, Cond.code yX4_gust cX4_gust 1 (some .int), Cond.fieldLink RX4 16 "PumiceSledgeModel" "gusts" "[I", Cond.methodLink RX4 50 yX4_put, Cond.instanceMethod yX4_put, Cond.selects RX4 yX4_put yX4_put, Cond.code yX4_put cX4_put 4 none, Cond.methodLink RX4 119 yX4_climb, Cond.instanceMethod yX4_climb, Cond.selects RX4 yX4_climb yX4_climb, Cond.code yX4_climb cX4_climb 2 none, Cond.methodLink RX4 112 Lib.Math.min.name, Cond.static Lib.Math.min.name, Cond.code Lib.Math.min.name Lib.Math.min.code 2 (some .int), Cond.methodLink RX4 122 yX4_unload, Cond.instanceMethod yX4_unload, Cond.selects RX4 yX4_unload yX4_unload, Cond.code yX4_unload cX4_unload 3 none, Cond.methodLink RX4 61 yX4_kind, Cond.static yX4_kind, Cond.code yX4_kind cX4_kind 1 (some .int)]
def wsX4_hoursOn : List Cond := .code yX4_hoursOn cX4_hoursOn 4 (some .int) :: ((wsX4_hoursOn_r1 ++ wsX4_hoursOn_r2) ++ wsX40)
def wsX4_pass_r1 : List Cond := [Cond.fieldLink RX4 28 "PumiceSledgeModel" "thrown" "I", Cond.methodLink RX4 35 yX4_isIn, Cond.static yX4_isIn, Cond.initialized RX4, Cond.code yX4_isIn cX4_isIn 3 (some .boolean), Cond.methodLink RX4 128 yX4_hoursOn, Cond.instanceMethod yX4_hoursOn, Cond.selects RX4 yX4_hoursOn yX4_hoursOn, Cond.code yX4_hoursOn cX4_hoursOn 4 (some .int), Cond.methodLink RX4 103 yX4_ashore, Cond.instanceMethod yX4_ashore, Cond.selects RX4 yX4_ashore yX4_ashore, Cond.code yX4_ashore cX4_ashore 1 (some .int), Cond.fieldLink RX4 25 "PumiceSledgeModel" "numbers" "[I", Cond.methodLink RX4 125 yX4_hourOn, Cond.instanceMethod yX4_hourOn, Cond.selects RX4 yX4_hourOn yX4_hourOn, Cond.code yX4_hourOn cX4_hourOn 2 none, Cond.fieldLink RX4 32 "PumiceSledgeModel" "sledges" "I", Cond.methodLink RX4 57 yX4_sl, Cond.instanceMethod yX4_sl, Cond.selects RX4 yX4_sl yX4_sl, Cond.code yX4_sl cX4_sl 3 (some .int), Cond.fieldLink RX4 19 "PumiceSledgeModel" "slope" "[I"]
def wsX4_pass_r2 : List Cond := [Cond.methodLink RX4 115 yX4_slide, Cond.instanceMethod yX4_slide, Cond.selects RX4 yX4_slide yX4_slide, Cond.code yX4_slide cX4_slide 2 none, Cond.methodLink RX4 109 Lib.Math.max.name, Cond.static Lib.Math.max.name, Cond.initialized "java/lang/Math", Cond.code Lib.Math.max.name Lib.Math.max.code 2 (some .int), Cond.methodLink RX4 96 yX4_gust, Cond.instanceMethod yX4_gust, Cond.selects RX4 yX4_gust yX4_gust, Cond.code yX4_gust cX4_gust 1 (some .int), Cond.fieldLink RX4 16 "PumiceSledgeModel" "gusts" "[I", Cond.methodLink RX4 50 yX4_put, Cond.instanceMethod yX4_put, Cond.selects RX4 yX4_put yX4_put, Cond.code yX4_put cX4_put 4 none, Cond.methodLink RX4 119 yX4_climb, Cond.instanceMethod yX4_climb, Cond.selects RX4 yX4_climb yX4_climb, Cond.code yX4_climb cX4_climb 2 none, Cond.methodLink RX4 112 Lib.Math.min.name, Cond.static Lib.Math.min.name, Cond.code Lib.Math.min.name Lib.Math.min.code 2 (some .int)]
def wsX4_pass_r3 : List Cond := [Cond.methodLink RX4 122 yX4_unload, Cond.instanceMethod yX4_unload, Cond.selects RX4 yX4_unload yX4_unload, Cond.code yX4_unload cX4_unload 3 none, Cond.methodLink RX4 61 yX4_kind, Cond.static yX4_kind, Cond.code yX4_kind cX4_kind 1 (some .int), Cond.methodLink RX4 46 yX4_fail, Cond.instanceMethod yX4_fail, Cond.selects RX4 yX4_fail yX4_fail, Cond.code yX4_fail cX4_fail 2 (some .int)]
def wsX4_pass : List Cond := .code yX4_pass cX4_pass 2 (some .int) :: ((wsX4_pass_r1 ++ (wsX4_pass_r2 ++ wsX4_pass_r3)) ++ wsX40)
def wsX4_kept : List Cond := .code yX4_kept cX4_kept 1 (some (.array (.array .int))) :: ([.classLink RX4 131 "[I", .fieldLink RX4 19 "PumiceSledgeModel" "slope" "[I", .methodLink RX4 132 ⟨"[I", "clone", "()Ljava/lang/Object;"⟩, .sameMethod "[I" "java/lang/Object" "clone" "()Ljava/lang/Object;", .native ⟨"java/lang/Object", "clone", "()Ljava/lang/Object;"⟩, .instanceMethod ⟨"java/lang/Object", "clone", "()Ljava/lang/Object;"⟩, .selects "[I" ⟨"[I", "clone", "()Ljava/lang/Object;"⟩ ⟨"java/lang/Object", "clone", "()Ljava/lang/Object;"⟩, .fieldLink RX4 25 "PumiceSledgeModel" "numbers" "[I"] ++ wsX40)
def wsX4_bringBack : List Cond := .code yX4_bringBack cX4_bringBack 2 none :: ([.fieldLink RX4 19 "PumiceSledgeModel" "slope" "[I", .methodLink RX4 136 arraycopyName, .native arraycopyName, .static arraycopyName, .initialized "java/lang/System", .fieldLink RX4 25 "PumiceSledgeModel" "numbers" "[I"] ++ wsX40)
def wsX4_back_r1 : List Cond := [Cond.fieldLink RX4 28 "PumiceSledgeModel" "thrown" "I", Cond.methodLink RX4 54 yX4_isSledge, Cond.instanceMethod yX4_isSledge, Cond.selects RX4 yX4_isSledge yX4_isSledge, Cond.initialized RX4, Cond.code yX4_isSledge cX4_isSledge 2 (some .boolean), Cond.fieldLink RX4 32 "PumiceSledgeModel" "sledges" "I", Cond.methodLink RX4 35 yX4_isIn, Cond.static yX4_isIn, Cond.code yX4_isIn cX4_isIn 3 (some .boolean), Cond.methodLink RX4 46 yX4_fail, Cond.instanceMethod yX4_fail, Cond.selects RX4 yX4_fail yX4_fail, Cond.code yX4_fail cX4_fail 2 (some .int), Cond.methodLink RX4 142 yX4_kept, Cond.instanceMethod yX4_kept, Cond.selects RX4 yX4_kept yX4_kept, Cond.code yX4_kept cX4_kept 1 (some (.array (.array .int))), Cond.classLink RX4 131 "[I", Cond.fieldLink RX4 19 "PumiceSledgeModel" "slope" "[I", Cond.methodLink RX4 132 ⟨"[I", "clone", "()Ljava/lang/Object;"⟩, Cond.sameMethod "[I" "java/lang/Object" "clone" "()Ljava/lang/Object;", Cond.native ⟨"java/lang/Object", "clone", "()Ljava/lang/Object;"⟩, Cond.instanceMethod ⟨"java/lang/Object", "clone", "()Ljava/lang/Object;"⟩]
def wsX4_back_r2 : List Cond := [Cond.selects "[I" ⟨"[I", "clone", "()Ljava/lang/Object;"⟩ ⟨"java/lang/Object", "clone", "()Ljava/lang/Object;"⟩, Cond.fieldLink RX4 25 "PumiceSledgeModel" "numbers" "[I", Cond.methodLink RX4 57 yX4_sl, Cond.instanceMethod yX4_sl, Cond.selects RX4 yX4_sl yX4_sl, Cond.code yX4_sl cX4_sl 3 (some .int), Cond.methodLink RX4 125 yX4_hourOn, Cond.instanceMethod yX4_hourOn, Cond.selects RX4 yX4_hourOn yX4_hourOn, Cond.code yX4_hourOn cX4_hourOn 2 none, Cond.methodLink RX4 115 yX4_slide, Cond.instanceMethod yX4_slide, Cond.selects RX4 yX4_slide yX4_slide, Cond.code yX4_slide cX4_slide 2 none, Cond.methodLink RX4 109 Lib.Math.max.name, Cond.static Lib.Math.max.name, Cond.initialized "java/lang/Math", Cond.code Lib.Math.max.name Lib.Math.max.code 2 (some .int), Cond.methodLink RX4 96 yX4_gust, Cond.instanceMethod yX4_gust, Cond.selects RX4 yX4_gust yX4_gust, Cond.code yX4_gust cX4_gust 1 (some .int), Cond.fieldLink RX4 16 "PumiceSledgeModel" "gusts" "[I", Cond.methodLink RX4 50 yX4_put]
def wsX4_back_r3 : List Cond := [Cond.instanceMethod yX4_put, Cond.selects RX4 yX4_put yX4_put, Cond.code yX4_put cX4_put 4 none, Cond.methodLink RX4 119 yX4_climb, Cond.instanceMethod yX4_climb, Cond.selects RX4 yX4_climb yX4_climb, Cond.code yX4_climb cX4_climb 2 none, Cond.methodLink RX4 112 Lib.Math.min.name, Cond.static Lib.Math.min.name, Cond.code Lib.Math.min.name Lib.Math.min.code 2 (some .int), Cond.methodLink RX4 122 yX4_unload, Cond.instanceMethod yX4_unload, Cond.selects RX4 yX4_unload yX4_unload, Cond.code yX4_unload cX4_unload 3 none, Cond.methodLink RX4 61 yX4_kind, Cond.static yX4_kind, Cond.code yX4_kind cX4_kind 1 (some .int), Cond.methodLink RX4 146 yX4_bringBack, Cond.instanceMethod yX4_bringBack, Cond.selects RX4 yX4_bringBack yX4_bringBack, Cond.code yX4_bringBack cX4_bringBack 2 none, Cond.methodLink RX4 136 arraycopyName, Cond.native arraycopyName, Cond.static arraycopyName]
def wsX4_back_r4 : List Cond := [Cond.initialized "java/lang/System"]
def wsX4_back : List Cond := .code yX4_back cX4_back 4 (some .int) :: ((wsX4_back_r1 ++ (wsX4_back_r2 ++ (wsX4_back_r3 ++ wsX4_back_r4))) ++ wsX40)
def wsX4_arrives_r1 : List Cond := [Cond.fieldLink RX4 28 "PumiceSledgeModel" "thrown" "I", Cond.fieldLink RX4 25 "PumiceSledgeModel" "numbers" "[I", Cond.methodLink RX4 54 yX4_isSledge, Cond.instanceMethod yX4_isSledge, Cond.selects RX4 yX4_isSledge yX4_isSledge, Cond.initialized RX4, Cond.code yX4_isSledge cX4_isSledge 2 (some .boolean), Cond.fieldLink RX4 32 "PumiceSledgeModel" "sledges" "I", Cond.methodLink RX4 35 yX4_isIn, Cond.static yX4_isIn, Cond.code yX4_isIn cX4_isIn 3 (some .boolean), Cond.methodLink RX4 46 yX4_fail, Cond.instanceMethod yX4_fail, Cond.selects RX4 yX4_fail yX4_fail, Cond.code yX4_fail cX4_fail 2 (some .int), Cond.methodLink RX4 57 yX4_sl, Cond.instanceMethod yX4_sl, Cond.selects RX4 yX4_sl yX4_sl, Cond.code yX4_sl cX4_sl 3 (some .int), Cond.fieldLink RX4 19 "PumiceSledgeModel" "slope" "[I", Cond.methodLink RX4 142 yX4_kept, Cond.instanceMethod yX4_kept, Cond.selects RX4 yX4_kept yX4_kept, Cond.code yX4_kept cX4_kept 1 (some (.array (.array .int)))]
def wsX4_arrives_r2 : List Cond := [Cond.classLink RX4 131 "[I", Cond.methodLink RX4 132 ⟨"[I", "clone", "()Ljava/lang/Object;"⟩, Cond.sameMethod "[I" "java/lang/Object" "clone" "()Ljava/lang/Object;", Cond.native ⟨"java/lang/Object", "clone", "()Ljava/lang/Object;"⟩, Cond.instanceMethod ⟨"java/lang/Object", "clone", "()Ljava/lang/Object;"⟩, Cond.selects "[I" ⟨"[I", "clone", "()Ljava/lang/Object;"⟩ ⟨"java/lang/Object", "clone", "()Ljava/lang/Object;"⟩, Cond.methodLink RX4 50 yX4_put, Cond.instanceMethod yX4_put, Cond.selects RX4 yX4_put yX4_put, Cond.code yX4_put cX4_put 4 none, Cond.methodLink RX4 115 yX4_slide, Cond.instanceMethod yX4_slide, Cond.selects RX4 yX4_slide yX4_slide, Cond.code yX4_slide cX4_slide 2 none, Cond.methodLink RX4 109 Lib.Math.max.name, Cond.static Lib.Math.max.name, Cond.initialized "java/lang/Math", Cond.code Lib.Math.max.name Lib.Math.max.code 2 (some .int), Cond.methodLink RX4 96 yX4_gust, Cond.instanceMethod yX4_gust, Cond.selects RX4 yX4_gust yX4_gust, Cond.code yX4_gust cX4_gust 1 (some .int), Cond.fieldLink RX4 16 "PumiceSledgeModel" "gusts" "[I", Cond.methodLink RX4 146 yX4_bringBack]
def wsX4_arrives_r3 : List Cond := [Cond.instanceMethod yX4_bringBack, Cond.selects RX4 yX4_bringBack yX4_bringBack, Cond.code yX4_bringBack cX4_bringBack 2 none, Cond.methodLink RX4 136 arraycopyName, Cond.native arraycopyName, Cond.static arraycopyName, Cond.initialized "java/lang/System"]
def wsX4_arrives : List Cond := .code yX4_arrives cX4_arrives 4 (some .int) :: ((wsX4_arrives_r1 ++ (wsX4_arrives_r2 ++ wsX4_arrives_r3)) ++ wsX40)
def wsX4_advise_r1 : List Cond := [Cond.fieldLink RX4 28 "PumiceSledgeModel" "thrown" "I", Cond.methodLink RX4 75 yX4_isBoat, Cond.instanceMethod yX4_isBoat, Cond.selects RX4 yX4_isBoat yX4_isBoat, Cond.initialized RX4, Cond.code yX4_isBoat cX4_isBoat 2 (some .boolean), Cond.fieldLink RX4 39 "PumiceSledgeModel" "boats" "I", Cond.methodLink RX4 35 yX4_isIn, Cond.static yX4_isIn, Cond.code yX4_isIn cX4_isIn 3 (some .boolean), Cond.methodLink RX4 46 yX4_fail, Cond.instanceMethod yX4_fail, Cond.selects RX4 yX4_fail yX4_fail, Cond.code yX4_fail cX4_fail 2 (some .int), Cond.methodLink RX4 78 yX4_all, Cond.instanceMethod yX4_all, Cond.selects RX4 yX4_all yX4_all, Cond.code yX4_all cX4_all 2 (some .int), Cond.methodLink RX4 64 yX4_bo, Cond.instanceMethod yX4_bo, Cond.selects RX4 yX4_bo yX4_bo, Cond.code yX4_bo cX4_bo 3 (some .int), Cond.fieldLink RX4 22 "PumiceSledgeModel" "fleet" "[I", Cond.methodLink RX4 81 yX4_stowed]
def wsX4_advise_r2 : List Cond := [Cond.static yX4_stowed, Cond.code yX4_stowed cX4_stowed 1 (some .int), Cond.methodLink RX4 72 yX4_depth, Cond.static yX4_depth, Cond.code yX4_depth cX4_depth 2 (some .int), Cond.methodLink RX4 67 Lib.Math.abs.name, Cond.static Lib.Math.abs.name, Cond.initialized "java/lang/Math", Cond.code Lib.Math.abs.name Lib.Math.abs.code 1 (some .int)]
def wsX4_advise : List Cond := .code yX4_advise cX4_advise 3 (some .int) :: ((wsX4_advise_r1 ++ wsX4_advise_r2) ++ wsX40)
def wsX4_foresee_r1 : List Cond := [Cond.fieldLink RX4 28 "PumiceSledgeModel" "thrown" "I", Cond.methodLink RX4 35 yX4_isIn, Cond.static yX4_isIn, Cond.initialized RX4, Cond.code yX4_isIn cX4_isIn 3 (some .boolean), Cond.methodLink RX4 46 yX4_fail, Cond.instanceMethod yX4_fail, Cond.selects RX4 yX4_fail yX4_fail, Cond.code yX4_fail cX4_fail 2 (some .int), Cond.methodLink RX4 142 yX4_kept, Cond.instanceMethod yX4_kept, Cond.selects RX4 yX4_kept yX4_kept, Cond.code yX4_kept cX4_kept 1 (some (.array (.array .int))), Cond.classLink RX4 131 "[I", Cond.fieldLink RX4 19 "PumiceSledgeModel" "slope" "[I", Cond.methodLink RX4 132 ⟨"[I", "clone", "()Ljava/lang/Object;"⟩, Cond.sameMethod "[I" "java/lang/Object" "clone" "()Ljava/lang/Object;", Cond.native ⟨"java/lang/Object", "clone", "()Ljava/lang/Object;"⟩, Cond.instanceMethod ⟨"java/lang/Object", "clone", "()Ljava/lang/Object;"⟩, Cond.selects "[I" ⟨"[I", "clone", "()Ljava/lang/Object;"⟩ ⟨"java/lang/Object", "clone", "()Ljava/lang/Object;"⟩, Cond.fieldLink RX4 25 "PumiceSledgeModel" "numbers" "[I", Cond.methodLink RX4 128 yX4_hoursOn, Cond.instanceMethod yX4_hoursOn, Cond.selects RX4 yX4_hoursOn yX4_hoursOn]
def wsX4_foresee_r2 : List Cond := [Cond.code yX4_hoursOn cX4_hoursOn 4 (some .int), Cond.methodLink RX4 103 yX4_ashore, Cond.instanceMethod yX4_ashore, Cond.selects RX4 yX4_ashore yX4_ashore, Cond.code yX4_ashore cX4_ashore 1 (some .int), Cond.methodLink RX4 125 yX4_hourOn, Cond.instanceMethod yX4_hourOn, Cond.selects RX4 yX4_hourOn yX4_hourOn, Cond.code yX4_hourOn cX4_hourOn 2 none, Cond.fieldLink RX4 32 "PumiceSledgeModel" "sledges" "I", Cond.methodLink RX4 57 yX4_sl, Cond.instanceMethod yX4_sl, Cond.selects RX4 yX4_sl yX4_sl, Cond.code yX4_sl cX4_sl 3 (some .int), Cond.methodLink RX4 115 yX4_slide, Cond.instanceMethod yX4_slide, Cond.selects RX4 yX4_slide yX4_slide, Cond.code yX4_slide cX4_slide 2 none, Cond.methodLink RX4 109 Lib.Math.max.name, Cond.static Lib.Math.max.name, Cond.initialized "java/lang/Math", Cond.code Lib.Math.max.name Lib.Math.max.code 2 (some .int), Cond.methodLink RX4 96 yX4_gust, Cond.instanceMethod yX4_gust]
def wsX4_foresee_r3 : List Cond := [Cond.selects RX4 yX4_gust yX4_gust, Cond.code yX4_gust cX4_gust 1 (some .int), Cond.fieldLink RX4 16 "PumiceSledgeModel" "gusts" "[I", Cond.methodLink RX4 50 yX4_put, Cond.instanceMethod yX4_put, Cond.selects RX4 yX4_put yX4_put, Cond.code yX4_put cX4_put 4 none, Cond.methodLink RX4 119 yX4_climb, Cond.instanceMethod yX4_climb, Cond.selects RX4 yX4_climb yX4_climb, Cond.code yX4_climb cX4_climb 2 none, Cond.methodLink RX4 112 Lib.Math.min.name, Cond.static Lib.Math.min.name, Cond.code Lib.Math.min.name Lib.Math.min.code 2 (some .int), Cond.methodLink RX4 122 yX4_unload, Cond.instanceMethod yX4_unload, Cond.selects RX4 yX4_unload yX4_unload, Cond.code yX4_unload cX4_unload 3 none, Cond.methodLink RX4 61 yX4_kind, Cond.static yX4_kind, Cond.code yX4_kind cX4_kind 1 (some .int), Cond.methodLink RX4 106 yX4_counted, Cond.instanceMethod yX4_counted, Cond.selects RX4 yX4_counted yX4_counted]
def wsX4_foresee_r4 : List Cond := [Cond.code yX4_counted cX4_counted 7 (some .int), Cond.fieldLink RX4 39 "PumiceSledgeModel" "boats" "I", Cond.fieldLink RX4 9 "PumiceSledgeModel" "stones" "[I", Cond.methodLink RX4 100 yX4_aboard, Cond.instanceMethod yX4_aboard, Cond.selects RX4 yX4_aboard yX4_aboard, Cond.code yX4_aboard cX4_aboard 3 (some .int), Cond.methodLink RX4 146 yX4_bringBack, Cond.instanceMethod yX4_bringBack, Cond.selects RX4 yX4_bringBack yX4_bringBack, Cond.code yX4_bringBack cX4_bringBack 2 none, Cond.methodLink RX4 136 arraycopyName, Cond.native arraycopyName, Cond.static arraycopyName, Cond.initialized "java/lang/System"]
def wsX4_foresee : List Cond := .code yX4_foresee cX4_foresee 5 (some .int) :: ((wsX4_foresee_r1 ++ (wsX4_foresee_r2 ++ (wsX4_foresee_r3 ++ wsX4_foresee_r4))) ++ wsX40)
def wsX4_mean : List Cond := .code yX4_mean cX4_mean 3 (some .double) :: ([.fieldLink RX4 28 "PumiceSledgeModel" "thrown" "I", .fieldLink RX4 32 "PumiceSledgeModel" "sledges" "I", .methodLink RX4 90 yX4_sledgeTold, .instanceMethod yX4_sledgeTold, .selects RX4 yX4_sledgeTold yX4_sledgeTold, .initialized RX4, .code yX4_sledgeTold cX4_sledgeTold 6 (some .int), .methodLink RX4 57 yX4_sl, .instanceMethod yX4_sl, .selects RX4 yX4_sl yX4_sl, .code yX4_sl cX4_sl 3 (some .int), .fieldLink RX4 19 "PumiceSledgeModel" "slope" "[I", .methodLink RX4 61 yX4_kind, .static yX4_kind, .code yX4_kind cX4_kind 1 (some .int), .methodLink RX4 100 yX4_aboard, .instanceMethod yX4_aboard, .selects RX4 yX4_aboard yX4_aboard, .code yX4_aboard cX4_aboard 3 (some .int)] ++ wsX40)
def wsX4_digest_r1 : List Cond := [Cond.fieldLink RX4 28 "PumiceSledgeModel" "thrown" "I", Cond.constantLong RX4 150 (1321), Cond.constantLong RX4 152 (31), Cond.fieldLink RX4 16 "PumiceSledgeModel" "gusts" "[I", Cond.fieldLink RX4 32 "PumiceSledgeModel" "sledges" "I", Cond.fieldLink RX4 39 "PumiceSledgeModel" "boats" "I", Cond.fieldLink RX4 25 "PumiceSledgeModel" "numbers" "[I", Cond.methodLink RX4 106 yX4_counted, Cond.instanceMethod yX4_counted, Cond.selects RX4 yX4_counted yX4_counted, Cond.initialized RX4, Cond.code yX4_counted cX4_counted 7 (some .int), Cond.fieldLink RX4 9 "PumiceSledgeModel" "stones" "[I", Cond.methodLink RX4 96 yX4_gust, Cond.instanceMethod yX4_gust, Cond.selects RX4 yX4_gust yX4_gust, Cond.code yX4_gust cX4_gust 1 (some .int), Cond.methodLink RX4 100 yX4_aboard, Cond.instanceMethod yX4_aboard, Cond.selects RX4 yX4_aboard yX4_aboard, Cond.code yX4_aboard cX4_aboard 3 (some .int), Cond.methodLink RX4 57 yX4_sl, Cond.instanceMethod yX4_sl, Cond.selects RX4 yX4_sl yX4_sl]
def wsX4_digest_r2 : List Cond := [Cond.code yX4_sl cX4_sl 3 (some .int), Cond.fieldLink RX4 19 "PumiceSledgeModel" "slope" "[I", Cond.methodLink RX4 103 yX4_ashore, Cond.instanceMethod yX4_ashore, Cond.selects RX4 yX4_ashore yX4_ashore, Cond.code yX4_ashore cX4_ashore 1 (some .int), Cond.methodLink RX4 87 yX4_layerTold, Cond.instanceMethod yX4_layerTold, Cond.selects RX4 yX4_layerTold yX4_layerTold, Cond.code yX4_layerTold cX4_layerTold 3 (some .int), Cond.fieldLink RX4 13 "PumiceSledgeModel" "weights" "[I", Cond.methodLink RX4 61 yX4_kind, Cond.static yX4_kind, Cond.code yX4_kind cX4_kind 1 (some .int), Cond.methodLink RX4 90 yX4_sledgeTold, Cond.instanceMethod yX4_sledgeTold, Cond.selects RX4 yX4_sledgeTold yX4_sledgeTold, Cond.code yX4_sledgeTold cX4_sledgeTold 6 (some .int), Cond.methodLink RX4 93 yX4_boatTold, Cond.instanceMethod yX4_boatTold, Cond.selects RX4 yX4_boatTold yX4_boatTold, Cond.code yX4_boatTold cX4_boatTold 3 (some .int), Cond.methodLink RX4 64 yX4_bo, Cond.instanceMethod yX4_bo]
def wsX4_digest_r3 : List Cond := [Cond.selects RX4 yX4_bo yX4_bo, Cond.code yX4_bo cX4_bo 3 (some .int), Cond.fieldLink RX4 22 "PumiceSledgeModel" "fleet" "[I", Cond.methodLink RX4 72 yX4_depth, Cond.static yX4_depth, Cond.code yX4_depth cX4_depth 2 (some .int), Cond.methodLink RX4 67 Lib.Math.abs.name, Cond.static Lib.Math.abs.name, Cond.initialized "java/lang/Math", Cond.code Lib.Math.abs.name Lib.Math.abs.code 1 (some .int), Cond.methodLink RX4 84 yX4_canSail, Cond.instanceMethod yX4_canSail, Cond.selects RX4 yX4_canSail yX4_canSail, Cond.code yX4_canSail cX4_canSail 2 (some .boolean), Cond.methodLink RX4 35 yX4_isIn, Cond.static yX4_isIn, Cond.code yX4_isIn cX4_isIn 3 (some .boolean), Cond.methodLink RX4 78 yX4_all, Cond.instanceMethod yX4_all, Cond.selects RX4 yX4_all yX4_all, Cond.code yX4_all cX4_all 2 (some .int)]
def wsX4_digest : List Cond := .code yX4_digest cX4_digest 7 (some .long) :: ((wsX4_digest_r1 ++ (wsX4_digest_r2 ++ wsX4_digest_r3)) ++ wsX40)
def wsJ9_abs_0f7a4 : List Cond := .code yJ9_abs_0f7a4 cJ9_abs_0f7a4 1 (some .int) :: ([])
def wsJ9_max_7cf53 : List Cond := .code yJ9_max_7cf53 cJ9_max_7cf53 2 (some .int) :: ([])
def wsJ9_min_7cf53 : List Cond := .code yJ9_min_7cf53 cJ9_min_7cf53 2 (some .int) :: ([])
def wsL_set : List Cond := .codeWith yL_set cL_set 6 (some .int) [(0, 12, 15, 13), (0, 12, 19, 15)] :: ([.classLink RL 13 "java/lang/IndexOutOfBoundsException", .classLink RL 15 "java/lang/IllegalArgumentException", .methodLink RL 7 yX3_set, .instanceMethod yX3_set, .selects RX3 yX3_set yX3_set, .initialized RX3, .code yX3_set cX3_set 5 (some .int), .classLink RX3 51 "java/lang/IndexOutOfBoundsException", .initialized "java/lang/IndexOutOfBoundsException", .classLink RX3 62 "java/lang/IllegalArgumentException", .initialized "java/lang/IllegalArgumentException", .fieldLink RX3 9 "PumiceSledge" "stones" "[I", .fieldLink RX3 13 "PumiceSledge" "stoneWeights" "[I", .methodLink RX3 47 yX3_isLayer, .static yX3_isLayer, .code yX3_isLayer cX3_isLayer 1 (some .boolean), .methodLink RX3 58 yX3_isWithin, .static yX3_isWithin, .code yX3_isWithin cX3_isWithin 3 (some .boolean)] ++ wsX30 ++ (vx_atS RX3 55 "java/lang/IndexOutOfBoundsException" ["java/lang/RuntimeException", "java/lang/Exception"]).filter goodWord ++ (vx_atS RX3 66 "java/lang/IllegalArgumentException" ["java/lang/RuntimeException", "java/lang/Exception"]).filter goodWord)
def wsL_setGust : List Cond := .codeWith yL_setGust cL_setGust 5 (some .int) [(0, 10, 13, 13), (0, 10, 17, 15)] :: ([.classLink RL 13 "java/lang/IndexOutOfBoundsException", .classLink RL 15 "java/lang/IllegalArgumentException", .methodLink RL 17 yX3_setGust, .instanceMethod yX3_setGust, .selects RX3 yX3_setGust yX3_setGust, .initialized RX3, .code yX3_setGust cX3_setGust 4 (some .int), .classLink RX3 51 "java/lang/IndexOutOfBoundsException", .initialized "java/lang/IndexOutOfBoundsException", .classLink RX3 62 "java/lang/IllegalArgumentException", .initialized "java/lang/IllegalArgumentException", .fieldLink RX3 16 "PumiceSledge" "gusts" "[I", .methodLink RX3 58 yX3_isWithin, .static yX3_isWithin, .code yX3_isWithin cX3_isWithin 3 (some .boolean)] ++ wsX30 ++ (vx_atS RX3 55 "java/lang/IndexOutOfBoundsException" ["java/lang/RuntimeException", "java/lang/Exception"]).filter goodWord ++ (vx_atS RX3 66 "java/lang/IllegalArgumentException" ["java/lang/RuntimeException", "java/lang/Exception"]).filter goodWord)
def wsL_build : List Cond := .codeWith yL_build cL_build 4 (some .int) [(0, 9, 12, 15), (0, 9, 15, 25)] :: ([.classLink RL 15 "java/lang/IllegalArgumentException", .classLink RL 25 "java/lang/IllegalStateException", .methodLink RL 21 yX3_build, .instanceMethod yX3_build, .selects RX3 yX3_build yX3_build, .initialized RX3, .code yX3_build cX3_build 2 (some .int), .classLink RX3 62 "java/lang/IllegalArgumentException", .initialized "java/lang/IllegalArgumentException", .classLink RX3 79 "java/lang/IllegalStateException", .initialized "java/lang/IllegalStateException", .fieldLink RX3 75 "PumiceSledge" "sledgeCount" "I", .fieldLink RX3 21 "PumiceSledge" "sledges" "[LPumiceSledge$Sledge;", .methodLink RX3 58 yX3_isWithin, .static yX3_isWithin, .code yX3_isWithin cX3_isWithin 3 (some .boolean)] ++ wsX30 ++ wsX20 ++ (vx_atS RX3 66 "java/lang/IllegalArgumentException" ["java/lang/RuntimeException", "java/lang/Exception"]).filter goodWord ++ (vx_atS RX3 83 "java/lang/IllegalStateException" ["java/lang/RuntimeException", "java/lang/Exception"]).filter goodWord)
def wsL_fill_r1 : List Cond := [Cond.classLink RL 13 "java/lang/IndexOutOfBoundsException", Cond.classLink RL 25 "java/lang/IllegalStateException", Cond.methodLink RL 27 yX3_fill, Cond.instanceMethod yX3_fill, Cond.selects RX3 yX3_fill yX3_fill, Cond.initialized RX3, Cond.code yX3_fill cX3_fill 5 (some .int), Cond.classLink RX3 51 "java/lang/IndexOutOfBoundsException", Cond.initialized "java/lang/IndexOutOfBoundsException", Cond.classLink RX3 79 "java/lang/IllegalStateException", Cond.initialized "java/lang/IllegalStateException", Cond.fieldLink RX3 21 "PumiceSledge" "sledges" "[LPumiceSledge$Sledge;", Cond.fieldLink RX3 9 "PumiceSledge" "stones" "[I", Cond.methodLink RX3 87 yX3_isSledge, Cond.instanceMethod yX3_isSledge, Cond.selects RX3 yX3_isSledge yX3_isSledge, Cond.code yX3_isSledge cX3_isSledge 2 (some .boolean), Cond.fieldLink RX3 75 "PumiceSledge" "sledgeCount" "I", Cond.methodLink RX3 47 yX3_isLayer, Cond.static yX3_isLayer, Cond.code yX3_isLayer cX3_isLayer 1 (some .boolean), Cond.methodLink RX3 58 yX3_isWithin, Cond.static yX3_isWithin, Cond.code yX3_isWithin cX3_isWithin 3 (some .boolean)]
def wsL_fill_r2 : List Cond := [Cond.methodLink RX3 97 yX2_isFull, Cond.instanceMethod yX2_isFull, Cond.selects RX2 yX2_isFull yX2_isFull, Cond.initialized RX2, Cond.code yX2_isFull cX2_isFull 1 (some .boolean), Cond.fieldLink RX2 22 "PumiceSledge$Sledge" "aboard" "I", Cond.fieldLink RX2 25 "PumiceSledge$Sledge" "holds" "I", Cond.methodLink RX3 105 yX3_sackWeight, Cond.instanceMethod yX3_sackWeight, Cond.selects RX3 yX3_sackWeight yX3_sackWeight, Cond.code yX3_sackWeight cX3_sackWeight 2 (some .int), Cond.fieldLink RX3 13 "PumiceSledge" "stoneWeights" "[I", Cond.methodLink RX3 109 yX2_load, Cond.instanceMethod yX2_load, Cond.selects RX2 yX2_load yX2_load, Cond.code yX2_load cX2_load 2 none, Cond.fieldLink RX2 9 "PumiceSledge$Sledge" "weights" "[I", Cond.methodLink RX2 28 yX2_isFull, Cond.methodLink RX3 113 yX3_kindOf, Cond.static yX3_kindOf, Cond.code yX3_kindOf cX3_kindOf 1 (some .int)]
def wsL_fill : List Cond := .codeWith yL_fill cL_fill 5 (some .int) [(0, 10, 13, 13), (0, 10, 17, 25)] :: ((wsL_fill_r1 ++ wsL_fill_r2) ++ wsX30 ++ wsX20 ++ (vx_atS RX3 55 "java/lang/IndexOutOfBoundsException" ["java/lang/RuntimeException", "java/lang/Exception"]).filter goodWord ++ (vx_atS RX3 83 "java/lang/IllegalStateException" ["java/lang/RuntimeException", "java/lang/Exception"]).filter goodWord)
def wsL_go : List Cond := .codeWith yL_go cL_go 4 (some .int) [(0, 9, 12, 13), (0, 9, 15, 25)] :: ([.classLink RL 13 "java/lang/IndexOutOfBoundsException", .classLink RL 25 "java/lang/IllegalStateException", .methodLink RL 30 yX3_go, .instanceMethod yX3_go, .selects RX3 yX3_go yX3_go, .initialized RX3, .code yX3_go cX3_go 3 (some .int), .classLink RX3 51 "java/lang/IndexOutOfBoundsException", .initialized "java/lang/IndexOutOfBoundsException", .classLink RX3 79 "java/lang/IllegalStateException", .initialized "java/lang/IllegalStateException", .fieldLink RX3 21 "PumiceSledge" "sledges" "[LPumiceSledge$Sledge;", .methodLink RX3 87 yX3_isSledge, .instanceMethod yX3_isSledge, .selects RX3 yX3_isSledge yX3_isSledge, .code yX3_isSledge cX3_isSledge 2 (some .boolean), .fieldLink RX3 75 "PumiceSledge" "sledgeCount" "I"] ++ wsX30 ++ wsX20 ++ (vx_atS RX3 55 "java/lang/IndexOutOfBoundsException" ["java/lang/RuntimeException", "java/lang/Exception"]).filter goodWord ++ (vx_atS RX3 83 "java/lang/IllegalStateException" ["java/lang/RuntimeException", "java/lang/Exception"]).filter goodWord)
def wsL_launch : List Cond := .codeWith yL_launch cL_launch 4 (some .int) [(0, 9, 12, 15), (0, 9, 15, 25)] :: ([.classLink RL 15 "java/lang/IllegalArgumentException", .classLink RL 25 "java/lang/IllegalStateException", .methodLink RL 33 yX3_launch, .instanceMethod yX3_launch, .selects RX3 yX3_launch yX3_launch, .initialized RX3, .code yX3_launch cX3_launch 2 (some .int), .classLink RX3 62 "java/lang/IllegalArgumentException", .initialized "java/lang/IllegalArgumentException", .classLink RX3 79 "java/lang/IllegalStateException", .initialized "java/lang/IllegalStateException", .fieldLink RX3 121 "PumiceSledge" "boatCount" "I", .fieldLink RX3 27 "PumiceSledge" "boats" "[LPumiceSledge$Boat;", .methodLink RX3 58 yX3_isWithin, .static yX3_isWithin, .code yX3_isWithin cX3_isWithin 3 (some .boolean)] ++ wsX30 ++ wsX00 ++ (vx_atS RX3 66 "java/lang/IllegalArgumentException" ["java/lang/RuntimeException", "java/lang/Exception"]).filter goodWord ++ (vx_atS RX3 83 "java/lang/IllegalStateException" ["java/lang/RuntimeException", "java/lang/Exception"]).filter goodWord)
def wsL_stow_r1 : List Cond := [Cond.classLink RL 13 "java/lang/IndexOutOfBoundsException", Cond.classLink RL 25 "java/lang/IllegalStateException", Cond.methodLink RL 36 yX3_stow, Cond.instanceMethod yX3_stow, Cond.selects RX3 yX3_stow yX3_stow, Cond.initialized RX3, Cond.code yX3_stow cX3_stow 6 (some .int), Cond.classLink RX3 51 "java/lang/IndexOutOfBoundsException", Cond.initialized "java/lang/IndexOutOfBoundsException", Cond.classLink RX3 79 "java/lang/IllegalStateException", Cond.initialized "java/lang/IllegalStateException", Cond.fieldLink RX3 27 "PumiceSledge" "boats" "[LPumiceSledge$Boat;", Cond.fieldLink RX3 34 "PumiceSledge" "shore" "LPumiceSledge$Shore;", Cond.methodLink RX3 129 yX3_isBoat, Cond.instanceMethod yX3_isBoat, Cond.selects RX3 yX3_isBoat yX3_isBoat, Cond.code yX3_isBoat cX3_isBoat 2 (some .boolean), Cond.fieldLink RX3 121 "PumiceSledge" "boatCount" "I", Cond.methodLink RX3 134 yX3_isKind, Cond.static yX3_isKind, Cond.code yX3_isKind cX3_isKind 1 (some .boolean), Cond.methodLink RX3 58 yX3_isWithin, Cond.static yX3_isWithin, Cond.code yX3_isWithin cX3_isWithin 3 (some .boolean)]
def wsL_stow_r2 : List Cond := [Cond.methodLink RX3 139 yX3_stowedWeight, Cond.static yX3_stowedWeight, Cond.code yX3_stowedWeight cX3_stowedWeight 1 (some .int), Cond.methodLink RX3 147 yX0_room, Cond.instanceMethod yX0_room, Cond.selects RX0 yX0_room yX0_room, Cond.initialized RX0, Cond.code yX0_room cX0_room 1 (some .int), Cond.fieldLink RX0 33 "PumiceSledge$Boat" "mostLoad" "I", Cond.fieldLink RX0 7 "PumiceSledge$Boat" "fore" "I", Cond.fieldLink RX0 13 "PumiceSledge$Boat" "aft" "I", Cond.methodLink RX3 159 yX0_trim, Cond.instanceMethod yX0_trim, Cond.selects RX0 yX0_trim yX0_trim, Cond.code yX0_trim cX0_trim 1 (some .int)]
def wsL_stow : List Cond := .codeWith yL_stow cL_stow 6 (some .int) [(0, 12, 15, 13), (0, 12, 19, 25)] :: ((wsL_stow_r1 ++ wsL_stow_r2) ++ wsX30 ++ wsX10 ++ wsX00 ++ (vx_atS RX3 55 "java/lang/IndexOutOfBoundsException" ["java/lang/RuntimeException", "java/lang/Exception"]).filter goodWord ++ (vx_atS RX3 83 "java/lang/IllegalStateException" ["java/lang/RuntimeException", "java/lang/Exception"]).filter goodWord)
def wsL_sail_r1 : List Cond := [Cond.classLink RL 13 "java/lang/IndexOutOfBoundsException", Cond.classLink RL 25 "java/lang/IllegalStateException", Cond.methodLink RL 40 yX3_sail, Cond.instanceMethod yX3_sail, Cond.selects RX3 yX3_sail yX3_sail, Cond.initialized RX3, Cond.code yX3_sail cX3_sail 4 (some .int), Cond.classLink RX3 51 "java/lang/IndexOutOfBoundsException", Cond.initialized "java/lang/IndexOutOfBoundsException", Cond.classLink RX3 79 "java/lang/IllegalStateException", Cond.initialized "java/lang/IllegalStateException", Cond.fieldLink RX3 27 "PumiceSledge" "boats" "[LPumiceSledge$Boat;", Cond.fieldLink RX3 170 "PumiceSledge" "coins" "I", Cond.methodLink RX3 129 yX3_isBoat, Cond.instanceMethod yX3_isBoat, Cond.selects RX3 yX3_isBoat yX3_isBoat, Cond.code yX3_isBoat cX3_isBoat 2 (some .boolean), Cond.fieldLink RX3 121 "PumiceSledge" "boatCount" "I", Cond.methodLink RX3 162 yX0_canSail, Cond.instanceMethod yX0_canSail, Cond.selects RX0 yX0_canSail yX0_canSail, Cond.initialized RX0, Cond.code yX0_canSail cX0_canSail 1 (some .boolean), Cond.methodLink RX0 22 yX0_depth]
def wsL_sail_r2 : List Cond := [Cond.instanceMethod yX0_depth, Cond.selects RX0 yX0_depth yX0_depth, Cond.code yX0_depth cX0_depth 1 (some .int), Cond.fieldLink RX0 7 "PumiceSledge$Boat" "fore" "I", Cond.fieldLink RX0 13 "PumiceSledge$Boat" "aft" "I", Cond.static yX3_depthOf, Cond.code yX3_depthOf cX3_depthOf 2 (some .int), Cond.methodLink RX3 274 Lib.Math.abs.name, Cond.static Lib.Math.abs.name, Cond.initialized "java/lang/Math", Cond.code Lib.Math.abs.name Lib.Math.abs.code 1 (some .int), Cond.methodLink RX0 26 yX0_trim, Cond.instanceMethod yX0_trim, Cond.selects RX0 yX0_trim yX0_trim, Cond.code yX0_trim cX0_trim 1 (some .int), Cond.static yX3_isWithin, Cond.code yX3_isWithin cX3_isWithin 3 (some .boolean), Cond.methodLink RX3 167 yX0_worth, Cond.instanceMethod yX0_worth, Cond.selects RX0 yX0_worth yX0_worth, Cond.code yX0_worth cX0_worth 1 (some .int)]
def wsL_sail : List Cond := .codeWith yL_sail cL_sail 4 (some .int) [(0, 9, 12, 13), (0, 9, 15, 25)] :: ((wsL_sail_r1 ++ wsL_sail_r2) ++ wsX30 ++ wsX00 ++ (vx_atS RX3 55 "java/lang/IndexOutOfBoundsException" ["java/lang/RuntimeException", "java/lang/Exception"]).filter goodWord ++ (vx_atS RX3 83 "java/lang/IllegalStateException" ["java/lang/RuntimeException", "java/lang/Exception"]).filter goodWord)
def wsL_layer : List Cond := .codeWith yL_layer cL_layer 5 (some .int) [(0, 10, 13, 13)] :: ([.classLink RL 13 "java/lang/IndexOutOfBoundsException", .methodLink RL 43 yX3_layer, .instanceMethod yX3_layer, .selects RX3 yX3_layer yX3_layer, .initialized RX3, .code yX3_layer cX3_layer 3 (some .int), .classLink RX3 51 "java/lang/IndexOutOfBoundsException", .initialized "java/lang/IndexOutOfBoundsException", .fieldLink RX3 9 "PumiceSledge" "stones" "[I", .fieldLink RX3 13 "PumiceSledge" "stoneWeights" "[I", .methodLink RX3 47 yX3_isLayer, .static yX3_isLayer, .code yX3_isLayer cX3_isLayer 1 (some .boolean), .methodLink RX3 58 yX3_isWithin, .static yX3_isWithin, .code yX3_isWithin cX3_isWithin 3 (some .boolean), .methodLink RX3 105 yX3_sackWeight, .instanceMethod yX3_sackWeight, .selects RX3 yX3_sackWeight yX3_sackWeight, .code yX3_sackWeight cX3_sackWeight 2 (some .int), .methodLink RX3 113 yX3_kindOf, .static yX3_kindOf, .code yX3_kindOf cX3_kindOf 1 (some .int)] ++ wsX30 ++ (vx_atS RX3 55 "java/lang/IndexOutOfBoundsException" ["java/lang/RuntimeException", "java/lang/Exception"]).filter goodWord)
def wsL_told_r1 : List Cond := [Cond.classLink RL 13 "java/lang/IndexOutOfBoundsException", Cond.methodLink RL 46 yX3_told, Cond.instanceMethod yX3_told, Cond.selects RX3 yX3_told yX3_told, Cond.initialized RX3, Cond.code yX3_told cX3_told 4 (some .int), Cond.classLink RX3 51 "java/lang/IndexOutOfBoundsException", Cond.initialized "java/lang/IndexOutOfBoundsException", Cond.fieldLink RX3 21 "PumiceSledge" "sledges" "[LPumiceSledge$Sledge;", Cond.methodLink RX3 87 yX3_isSledge, Cond.instanceMethod yX3_isSledge, Cond.selects RX3 yX3_isSledge yX3_isSledge, Cond.code yX3_isSledge cX3_isSledge 2 (some .boolean), Cond.fieldLink RX3 75 "PumiceSledge" "sledgeCount" "I", Cond.methodLink RX3 58 yX3_isWithin, Cond.static yX3_isWithin, Cond.code yX3_isWithin cX3_isWithin 3 (some .boolean), Cond.methodLink RX3 180 yX2_weightAboard, Cond.instanceMethod yX2_weightAboard, Cond.selects RX2 yX2_weightAboard yX2_weightAboard, Cond.initialized RX2, Cond.code yX2_weightAboard cX2_weightAboard 3 (some .int), Cond.fieldLink RX2 22 "PumiceSledge$Sledge" "aboard" "I", Cond.fieldLink RX2 9 "PumiceSledge$Sledge" "weights" "[I"]
def wsL_told_r2 : List Cond := [Cond.methodLink RX3 183 yX2_lastKind, Cond.instanceMethod yX2_lastKind, Cond.selects RX2 yX2_lastKind yX2_lastKind, Cond.code yX2_lastKind cX2_lastKind 1 (some .int), Cond.static yX3_kindOf, Cond.code yX3_kindOf cX3_kindOf 1 (some .int)]
def wsL_told : List Cond := .codeWith yL_told cL_told 5 (some .int) [(0, 10, 13, 13)] :: ((wsL_told_r1 ++ wsL_told_r2) ++ wsX30 ++ wsX20 ++ (vx_atS RX3 55 "java/lang/IndexOutOfBoundsException" ["java/lang/RuntimeException", "java/lang/Exception"]).filter goodWord)
def wsL_boat_r1 : List Cond := [Cond.classLink RL 13 "java/lang/IndexOutOfBoundsException", Cond.methodLink RL 49 yX3_boat, Cond.instanceMethod yX3_boat, Cond.selects RX3 yX3_boat yX3_boat, Cond.initialized RX3, Cond.code yX3_boat cX3_boat 4 (some .int), Cond.classLink RX3 51 "java/lang/IndexOutOfBoundsException", Cond.initialized "java/lang/IndexOutOfBoundsException", Cond.fieldLink RX3 27 "PumiceSledge" "boats" "[LPumiceSledge$Boat;", Cond.methodLink RX3 129 yX3_isBoat, Cond.instanceMethod yX3_isBoat, Cond.selects RX3 yX3_isBoat yX3_isBoat, Cond.code yX3_isBoat cX3_isBoat 2 (some .boolean), Cond.fieldLink RX3 121 "PumiceSledge" "boatCount" "I", Cond.methodLink RX3 58 yX3_isWithin, Cond.static yX3_isWithin, Cond.code yX3_isWithin cX3_isWithin 3 (some .boolean), Cond.methodLink RX3 159 yX0_trim, Cond.instanceMethod yX0_trim, Cond.selects RX0 yX0_trim yX0_trim, Cond.initialized RX0, Cond.code yX0_trim cX0_trim 1 (some .int), Cond.fieldLink RX0 7 "PumiceSledge$Boat" "fore" "I", Cond.fieldLink RX0 13 "PumiceSledge$Boat" "aft" "I"]
def wsL_boat_r2 : List Cond := [Cond.methodLink RX3 188 yX0_depth, Cond.instanceMethod yX0_depth, Cond.selects RX0 yX0_depth yX0_depth, Cond.code yX0_depth cX0_depth 1 (some .int), Cond.static yX3_depthOf, Cond.code yX3_depthOf cX3_depthOf 2 (some .int), Cond.methodLink RX3 274 Lib.Math.abs.name, Cond.static Lib.Math.abs.name, Cond.initialized "java/lang/Math", Cond.code Lib.Math.abs.name Lib.Math.abs.code 1 (some .int), Cond.methodLink RX3 162 yX0_canSail, Cond.instanceMethod yX0_canSail, Cond.selects RX0 yX0_canSail yX0_canSail, Cond.code yX0_canSail cX0_canSail 1 (some .boolean), Cond.methodLink RX0 22 yX0_depth, Cond.methodLink RX0 26 yX0_trim, Cond.methodLink RX3 147 yX0_room, Cond.instanceMethod yX0_room, Cond.selects RX0 yX0_room yX0_room, Cond.code yX0_room cX0_room 1 (some .int), Cond.fieldLink RX0 33 "PumiceSledge$Boat" "mostLoad" "I"]
def wsL_boat : List Cond := .codeWith yL_boat cL_boat 5 (some .int) [(0, 10, 13, 13)] :: ((wsL_boat_r1 ++ wsL_boat_r2) ++ wsX30 ++ wsX00 ++ (vx_atS RX3 55 "java/lang/IndexOutOfBoundsException" ["java/lang/RuntimeException", "java/lang/Exception"]).filter goodWord)
def wsL_beach : List Cond := .codeWith yL_beach cL_beach 4 (some .int) [(0, 9, 12, 13)] :: ([.classLink RL 13 "java/lang/IndexOutOfBoundsException", .methodLink RL 52 yX3_beach, .instanceMethod yX3_beach, .selects RX3 yX3_beach yX3_beach, .initialized RX3, .code yX3_beach cX3_beach 2 (some .int), .classLink RX3 51 "java/lang/IndexOutOfBoundsException", .initialized "java/lang/IndexOutOfBoundsException", .fieldLink RX3 34 "PumiceSledge" "shore" "LPumiceSledge$Shore;", .methodLink RX3 134 yX3_isKind, .static yX3_isKind, .code yX3_isKind cX3_isKind 1 (some .boolean), .methodLink RX3 58 yX3_isWithin, .static yX3_isWithin, .code yX3_isWithin cX3_isWithin 3 (some .boolean)] ++ wsX30 ++ wsX10 ++ (vx_atS RX3 55 "java/lang/IndexOutOfBoundsException" ["java/lang/RuntimeException", "java/lang/Exception"]).filter goodWord)
def wsL_count_r1 : List Cond := [Cond.classLink RL 13 "java/lang/IndexOutOfBoundsException", Cond.methodLink RL 55 yX3_count, Cond.instanceMethod yX3_count, Cond.selects RX3 yX3_count yX3_count, Cond.initialized RX3, Cond.code yX3_count cX3_count 2 (some .int), Cond.classLink RX3 51 "java/lang/IndexOutOfBoundsException", Cond.initialized "java/lang/IndexOutOfBoundsException", Cond.fieldLink RX3 193 "PumiceSledge" "hour" "I", Cond.fieldLink RX3 75 "PumiceSledge" "sledgeCount" "I", Cond.fieldLink RX3 121 "PumiceSledge" "boatCount" "I", Cond.fieldLink RX3 170 "PumiceSledge" "coins" "I", Cond.fieldLink RX3 34 "PumiceSledge" "shore" "LPumiceSledge$Shore;", Cond.methodLink RX3 58 yX3_isWithin, Cond.static yX3_isWithin, Cond.code yX3_isWithin cX3_isWithin 3 (some .boolean), Cond.methodLink RX3 196 yX3_gustAt, Cond.instanceMethod yX3_gustAt, Cond.selects RX3 yX3_gustAt yX3_gustAt, Cond.code yX3_gustAt cX3_gustAt 2 (some .int), Cond.fieldLink RX3 16 "PumiceSledge" "gusts" "[I", Cond.methodLink RX3 269 yJ9_floorMod_7cf53, Cond.static yJ9_floorMod_7cf53, Cond.initialized RJ9]
def wsL_count_r2 : List Cond := [Cond.code yJ9_floorMod_7cf53 cJ9_floorMod_7cf53 3 (some .int), Cond.methodLink RX3 199 yX3_sacksAboard, Cond.instanceMethod yX3_sacksAboard, Cond.selects RX3 yX3_sacksAboard yX3_sacksAboard, Cond.code yX3_sacksAboard cX3_sacksAboard 3 (some .int), Cond.fieldLink RX3 21 "PumiceSledge" "sledges" "[LPumiceSledge$Sledge;", Cond.methodLink RX3 202 yX1_allSacks, Cond.instanceMethod yX1_allSacks, Cond.selects RX1 yX1_allSacks yX1_allSacks, Cond.initialized RX1, Cond.code yX1_allSacks cX1_allSacks 1 (some .int), Cond.fieldLink RX1 9 "PumiceSledge$Shore" "sacks" "[I", Cond.methodLink RX3 208 yX3_allStones, Cond.instanceMethod yX3_allStones, Cond.selects RX3 yX3_allStones yX3_allStones, Cond.code yX3_allStones cX3_allStones 3 (some .int), Cond.fieldLink RX3 9 "PumiceSledge" "stones" "[I"]
def wsL_count : List Cond := .codeWith yL_count cL_count 4 (some .int) [(0, 9, 12, 13)] :: ((wsL_count_r1 ++ wsL_count_r2) ++ wsX30 ++ wsX10 ++ wsX20 ++ (vx_atS RX3 55 "java/lang/IndexOutOfBoundsException" ["java/lang/RuntimeException", "java/lang/Exception"]).filter goodWord)
def wsL_pass_r1 : List Cond := [Cond.classLink RL 15 "java/lang/IllegalArgumentException", Cond.methodLink RL 58 yX3_pass, Cond.instanceMethod yX3_pass, Cond.selects RX3 yX3_pass yX3_pass, Cond.initialized RX3, Cond.code yX3_pass cX3_pass 4 (some .int), Cond.classLink RX3 62 "java/lang/IllegalArgumentException", Cond.initialized "java/lang/IllegalArgumentException", Cond.fieldLink RX3 34 "PumiceSledge" "shore" "LPumiceSledge$Shore;", Cond.methodLink RX3 58 yX3_isWithin, Cond.static yX3_isWithin, Cond.code yX3_isWithin cX3_isWithin 3 (some .boolean), Cond.methodLink RX3 202 yX1_allSacks, Cond.instanceMethod yX1_allSacks, Cond.selects RX1 yX1_allSacks yX1_allSacks, Cond.initialized RX1, Cond.code yX1_allSacks cX1_allSacks 1 (some .int), Cond.fieldLink RX1 9 "PumiceSledge$Shore" "sacks" "[I", Cond.methodLink RX3 213 yX3_passOneHour, Cond.instanceMethod yX3_passOneHour, Cond.selects RX3 yX3_passOneHour yX3_passOneHour, Cond.code yX3_passOneHour cX3_passOneHour 3 none, Cond.fieldLink RX3 193 "PumiceSledge" "hour" "I", Cond.fieldLink RX3 75 "PumiceSledge" "sledgeCount" "I"]
def wsL_pass_r2 : List Cond := [Cond.fieldLink RX3 21 "PumiceSledge" "sledges" "[LPumiceSledge$Sledge;", Cond.methodLink RX3 196 yX3_gustAt, Cond.instanceMethod yX3_gustAt, Cond.selects RX3 yX3_gustAt yX3_gustAt, Cond.code yX3_gustAt cX3_gustAt 2 (some .int), Cond.fieldLink RX3 16 "PumiceSledge" "gusts" "[I", Cond.methodLink RX3 269 yJ9_floorMod_7cf53, Cond.static yJ9_floorMod_7cf53, Cond.initialized RJ9, Cond.code yJ9_floorMod_7cf53 cJ9_floorMod_7cf53 3 (some .int), Cond.methodLink RX3 220 yX2_travel, Cond.instanceMethod yX2_travel, Cond.selects RX2 yX2_travel yX2_travel, Cond.initialized RX2, Cond.code yX2_travel cX2_travel 3 none, Cond.fieldLink RX2 19 "PumiceSledge$Sledge" "course" "I", Cond.methodLink RX2 42 yX2_comeDown, Cond.instanceMethod yX2_comeDown, Cond.selects RX2 yX2_comeDown yX2_comeDown, Cond.code yX2_comeDown cX2_comeDown 3 none, Cond.fieldLink RX2 22 "PumiceSledge$Sledge" "aboard" "I", Cond.fieldLink RX2 15 "PumiceSledge$Sledge" "height" "I", Cond.methodLink RX2 54 Lib.Math.max.name, Cond.static Lib.Math.max.name]
def wsL_pass_r3 : List Cond := [Cond.initialized "java/lang/Math", Cond.code Lib.Math.max.name Lib.Math.max.code 2 (some .int), Cond.methodLink RX2 60 yX2_unload, Cond.instanceMethod yX2_unload, Cond.selects RX2 yX2_unload yX2_unload, Cond.code yX2_unload cX2_unload 3 none, Cond.fieldLink RX2 9 "PumiceSledge$Sledge" "weights" "[I", Cond.static yX3_kindOf, Cond.code yX3_kindOf cX3_kindOf 1 (some .int), Cond.methodLink RX2 46 yX2_comeUp, Cond.instanceMethod yX2_comeUp, Cond.selects RX2 yX2_comeUp yX2_comeUp, Cond.code yX2_comeUp cX2_comeUp 1 none, Cond.methodLink RX2 67 Lib.Math.min.name, Cond.static Lib.Math.min.name, Cond.code Lib.Math.min.name Lib.Math.min.code 2 (some .int)]
def wsL_pass : List Cond := .codeWith yL_pass cL_pass 4 (some .int) [(0, 9, 12, 15)] :: ((wsL_pass_r1 ++ (wsL_pass_r2 ++ wsL_pass_r3)) ++ wsX30 ++ wsX10 ++ wsX20 ++ (vx_atS RX3 66 "java/lang/IllegalArgumentException" ["java/lang/RuntimeException", "java/lang/Exception"]).filter goodWord)
def wsL_back_r1 : List Cond := [Cond.classLink RL 13 "java/lang/IndexOutOfBoundsException", Cond.methodLink RL 61 yX3_back, Cond.instanceMethod yX3_back, Cond.selects RX3 yX3_back yX3_back, Cond.initialized RX3, Cond.code yX3_back cX3_back 3 (some .int), Cond.classLink RX3 51 "java/lang/IndexOutOfBoundsException", Cond.initialized "java/lang/IndexOutOfBoundsException", Cond.fieldLink RX3 39 "PumiceSledge" "trial" "LPumiceSledge$Sledge;", Cond.fieldLink RX3 21 "PumiceSledge" "sledges" "[LPumiceSledge$Sledge;", Cond.fieldLink RX3 193 "PumiceSledge" "hour" "I", Cond.fieldLink RX3 43 "PumiceSledge" "trialShore" "LPumiceSledge$Shore;", Cond.methodLink RX3 87 yX3_isSledge, Cond.instanceMethod yX3_isSledge, Cond.selects RX3 yX3_isSledge yX3_isSledge, Cond.code yX3_isSledge cX3_isSledge 2 (some .boolean), Cond.fieldLink RX3 75 "PumiceSledge" "sledgeCount" "I", Cond.methodLink RX3 216 yX2_become, Cond.instanceMethod yX2_become, Cond.selects RX2 yX2_become yX2_become, Cond.initialized RX2, Cond.code yX2_become cX2_become 2 none, Cond.fieldLink RX2 25 "PumiceSledge$Sledge" "holds" "I", Cond.fieldLink RX2 9 "PumiceSledge$Sledge" "weights" "[I"]
def wsL_back_r2 : List Cond := [Cond.methodLink RX2 36 arraycopyName, Cond.native arraycopyName, Cond.static arraycopyName, Cond.initialized "java/lang/System", Cond.fieldLink RX2 22 "PumiceSledge$Sledge" "aboard" "I", Cond.fieldLink RX2 15 "PumiceSledge$Sledge" "height" "I", Cond.fieldLink RX2 19 "PumiceSledge$Sledge" "course" "I", Cond.methodLink RX3 196 yX3_gustAt, Cond.instanceMethod yX3_gustAt, Cond.selects RX3 yX3_gustAt yX3_gustAt, Cond.code yX3_gustAt cX3_gustAt 2 (some .int), Cond.fieldLink RX3 16 "PumiceSledge" "gusts" "[I", Cond.methodLink RX3 269 yJ9_floorMod_7cf53, Cond.static yJ9_floorMod_7cf53, Cond.initialized RJ9, Cond.code yJ9_floorMod_7cf53 cJ9_floorMod_7cf53 3 (some .int), Cond.methodLink RX3 220 yX2_travel, Cond.instanceMethod yX2_travel, Cond.selects RX2 yX2_travel yX2_travel, Cond.code yX2_travel cX2_travel 3 none, Cond.methodLink RX2 42 yX2_comeDown, Cond.instanceMethod yX2_comeDown, Cond.selects RX2 yX2_comeDown yX2_comeDown, Cond.code yX2_comeDown cX2_comeDown 3 none]
def wsL_back_r3 : List Cond := [Cond.methodLink RX2 54 Lib.Math.max.name, Cond.static Lib.Math.max.name, Cond.initialized "java/lang/Math", Cond.code Lib.Math.max.name Lib.Math.max.code 2 (some .int), Cond.methodLink RX2 60 yX2_unload, Cond.instanceMethod yX2_unload, Cond.selects RX2 yX2_unload yX2_unload, Cond.code yX2_unload cX2_unload 3 none, Cond.static yX3_kindOf, Cond.code yX3_kindOf cX3_kindOf 1 (some .int), Cond.methodLink RX2 46 yX2_comeUp, Cond.instanceMethod yX2_comeUp, Cond.selects RX2 yX2_comeUp yX2_comeUp, Cond.code yX2_comeUp cX2_comeUp 1 none, Cond.methodLink RX2 67 Lib.Math.min.name, Cond.static Lib.Math.min.name, Cond.code Lib.Math.min.name Lib.Math.min.code 2 (some .int)]
def wsL_back : List Cond := .codeWith yL_back cL_back 4 (some .int) [(0, 9, 12, 13)] :: ((wsL_back_r1 ++ (wsL_back_r2 ++ wsL_back_r3)) ++ wsX30 ++ wsX20 ++ wsX10 ++ (vx_atS RX3 55 "java/lang/IndexOutOfBoundsException" ["java/lang/RuntimeException", "java/lang/Exception"]).filter goodWord)
def wsL_arrives_r1 : List Cond := [Cond.classLink RL 13 "java/lang/IndexOutOfBoundsException", Cond.methodLink RL 64 yX3_arrives, Cond.instanceMethod yX3_arrives, Cond.selects RX3 yX3_arrives yX3_arrives, Cond.initialized RX3, Cond.code yX3_arrives cX3_arrives 4 (some .int), Cond.classLink RX3 51 "java/lang/IndexOutOfBoundsException", Cond.initialized "java/lang/IndexOutOfBoundsException", Cond.fieldLink RX3 39 "PumiceSledge" "trial" "LPumiceSledge$Sledge;", Cond.fieldLink RX3 21 "PumiceSledge" "sledges" "[LPumiceSledge$Sledge;", Cond.fieldLink RX3 43 "PumiceSledge" "trialShore" "LPumiceSledge$Shore;", Cond.fieldLink RX3 193 "PumiceSledge" "hour" "I", Cond.methodLink RX3 87 yX3_isSledge, Cond.instanceMethod yX3_isSledge, Cond.selects RX3 yX3_isSledge yX3_isSledge, Cond.code yX3_isSledge cX3_isSledge 2 (some .boolean), Cond.fieldLink RX3 75 "PumiceSledge" "sledgeCount" "I", Cond.methodLink RX3 216 yX2_become, Cond.instanceMethod yX2_become, Cond.selects RX2 yX2_become yX2_become, Cond.initialized RX2, Cond.code yX2_become cX2_become 2 none, Cond.fieldLink RX2 25 "PumiceSledge$Sledge" "holds" "I", Cond.fieldLink RX2 9 "PumiceSledge$Sledge" "weights" "[I"]
def wsL_arrives_r2 : List Cond := [Cond.methodLink RX2 36 arraycopyName, Cond.native arraycopyName, Cond.static arraycopyName, Cond.initialized "java/lang/System", Cond.fieldLink RX2 22 "PumiceSledge$Sledge" "aboard" "I", Cond.fieldLink RX2 15 "PumiceSledge$Sledge" "height" "I", Cond.fieldLink RX2 19 "PumiceSledge$Sledge" "course" "I", Cond.methodLink RX3 202 yX1_allSacks, Cond.instanceMethod yX1_allSacks, Cond.selects RX1 yX1_allSacks yX1_allSacks, Cond.initialized RX1, Cond.code yX1_allSacks cX1_allSacks 1 (some .int), Cond.fieldLink RX1 9 "PumiceSledge$Shore" "sacks" "[I", Cond.methodLink RX3 196 yX3_gustAt, Cond.instanceMethod yX3_gustAt, Cond.selects RX3 yX3_gustAt yX3_gustAt, Cond.code yX3_gustAt cX3_gustAt 2 (some .int), Cond.fieldLink RX3 16 "PumiceSledge" "gusts" "[I", Cond.methodLink RX3 269 yJ9_floorMod_7cf53, Cond.static yJ9_floorMod_7cf53, Cond.initialized RJ9, Cond.code yJ9_floorMod_7cf53 cJ9_floorMod_7cf53 3 (some .int), Cond.methodLink RX3 220 yX2_travel, Cond.instanceMethod yX2_travel]
def wsL_arrives_r3 : List Cond := [Cond.selects RX2 yX2_travel yX2_travel, Cond.code yX2_travel cX2_travel 3 none, Cond.methodLink RX2 42 yX2_comeDown, Cond.instanceMethod yX2_comeDown, Cond.selects RX2 yX2_comeDown yX2_comeDown, Cond.code yX2_comeDown cX2_comeDown 3 none, Cond.methodLink RX2 54 Lib.Math.max.name, Cond.static Lib.Math.max.name, Cond.initialized "java/lang/Math", Cond.code Lib.Math.max.name Lib.Math.max.code 2 (some .int), Cond.methodLink RX2 60 yX2_unload, Cond.instanceMethod yX2_unload, Cond.selects RX2 yX2_unload yX2_unload, Cond.code yX2_unload cX2_unload 3 none, Cond.static yX3_kindOf, Cond.code yX3_kindOf cX3_kindOf 1 (some .int), Cond.methodLink RX2 46 yX2_comeUp, Cond.instanceMethod yX2_comeUp, Cond.selects RX2 yX2_comeUp yX2_comeUp, Cond.code yX2_comeUp cX2_comeUp 1 none, Cond.methodLink RX2 67 Lib.Math.min.name, Cond.static Lib.Math.min.name, Cond.code Lib.Math.min.name Lib.Math.min.code 2 (some .int)]
def wsL_arrives : List Cond := .codeWith yL_arrives cL_arrives 4 (some .int) [(0, 9, 12, 13)] :: ((wsL_arrives_r1 ++ (wsL_arrives_r2 ++ wsL_arrives_r3)) ++ wsX30 ++ wsX20 ++ wsX10 ++ (vx_atS RX3 55 "java/lang/IndexOutOfBoundsException" ["java/lang/RuntimeException", "java/lang/Exception"]).filter goodWord)
def wsL_advise_r1 : List Cond := [Cond.classLink RL 13 "java/lang/IndexOutOfBoundsException", Cond.methodLink RL 67 yX3_advise, Cond.instanceMethod yX3_advise, Cond.selects RX3 yX3_advise yX3_advise, Cond.initialized RX3, Cond.code yX3_advise cX3_advise 7 (some .int), Cond.classLink RX3 51 "java/lang/IndexOutOfBoundsException", Cond.initialized "java/lang/IndexOutOfBoundsException", Cond.fieldLink RX3 27 "PumiceSledge" "boats" "[LPumiceSledge$Boat;", Cond.methodLink RX3 129 yX3_isBoat, Cond.instanceMethod yX3_isBoat, Cond.selects RX3 yX3_isBoat yX3_isBoat, Cond.code yX3_isBoat cX3_isBoat 2 (some .boolean), Cond.fieldLink RX3 121 "PumiceSledge" "boatCount" "I", Cond.methodLink RX3 134 yX3_isKind, Cond.static yX3_isKind, Cond.code yX3_isKind cX3_isKind 1 (some .boolean), Cond.methodLink RX3 58 yX3_isWithin, Cond.static yX3_isWithin, Cond.code yX3_isWithin cX3_isWithin 3 (some .boolean), Cond.methodLink RX3 139 yX3_stowedWeight, Cond.static yX3_stowedWeight, Cond.code yX3_stowedWeight cX3_stowedWeight 1 (some .int), Cond.methodLink RX3 147 yX0_room]
def wsL_advise_r2 : List Cond := [Cond.instanceMethod yX0_room, Cond.selects RX0 yX0_room yX0_room, Cond.initialized RX0, Cond.code yX0_room cX0_room 1 (some .int), Cond.fieldLink RX0 33 "PumiceSledge$Boat" "mostLoad" "I", Cond.fieldLink RX0 7 "PumiceSledge$Boat" "fore" "I", Cond.fieldLink RX0 13 "PumiceSledge$Boat" "aft" "I", Cond.methodLink RX3 224 yX3_depthOf, Cond.static yX3_depthOf, Cond.code yX3_depthOf cX3_depthOf 2 (some .int), Cond.methodLink RX3 274 Lib.Math.abs.name, Cond.static Lib.Math.abs.name, Cond.initialized "java/lang/Math", Cond.code Lib.Math.abs.name Lib.Math.abs.code 1 (some .int)]
def wsL_advise : List Cond := .codeWith yL_advise cL_advise 5 (some .int) [(0, 10, 13, 13)] :: ((wsL_advise_r1 ++ wsL_advise_r2) ++ wsX30 ++ wsX00 ++ (vx_atS RX3 55 "java/lang/IndexOutOfBoundsException" ["java/lang/RuntimeException", "java/lang/Exception"]).filter goodWord)
def wsL_foresee_r1 : List Cond := [Cond.classLink RL 15 "java/lang/IllegalArgumentException", Cond.classLink RL 13 "java/lang/IndexOutOfBoundsException", Cond.methodLink RL 70 yX3_foresee, Cond.instanceMethod yX3_foresee, Cond.selects RX3 yX3_foresee yX3_foresee, Cond.initialized RX3, Cond.code yX3_foresee cX3_foresee 5 (some .int), Cond.classLink RX3 62 "java/lang/IllegalArgumentException", Cond.initialized "java/lang/IllegalArgumentException", Cond.classLink RX3 51 "java/lang/IndexOutOfBoundsException", Cond.initialized "java/lang/IndexOutOfBoundsException", Cond.fieldLink RX3 43 "PumiceSledge" "trialShore" "LPumiceSledge$Shore;", Cond.fieldLink RX3 34 "PumiceSledge" "shore" "LPumiceSledge$Shore;", Cond.fieldLink RX3 75 "PumiceSledge" "sledgeCount" "I", Cond.fieldLink RX3 21 "PumiceSledge" "sledges" "[LPumiceSledge$Sledge;", Cond.methodLink RX3 58 yX3_isWithin, Cond.static yX3_isWithin, Cond.code yX3_isWithin cX3_isWithin 3 (some .boolean), Cond.methodLink RX3 230 yX1_become, Cond.instanceMethod yX1_become, Cond.selects RX1 yX1_become yX1_become, Cond.initialized RX1, Cond.code yX1_become cX1_become 2 none, Cond.fieldLink RX1 9 "PumiceSledge$Shore" "sacks" "[I"]
def wsL_foresee_r2 : List Cond := [Cond.methodLink RX1 15 arraycopyName, Cond.native arraycopyName, Cond.static arraycopyName, Cond.initialized "java/lang/System", Cond.fieldLink RX1 21 "PumiceSledge$Shore" "lost" "I", Cond.methodLink RX3 233 yX3_aboardBehind, Cond.instanceMethod yX3_aboardBehind, Cond.selects RX3 yX3_aboardBehind yX3_aboardBehind, Cond.code yX3_aboardBehind cX3_aboardBehind 4 (some .int), Cond.fieldLink RX3 39 "PumiceSledge" "trial" "LPumiceSledge$Sledge;", Cond.fieldLink RX3 193 "PumiceSledge" "hour" "I", Cond.methodLink RX3 216 yX2_become, Cond.instanceMethod yX2_become, Cond.selects RX2 yX2_become yX2_become, Cond.initialized RX2, Cond.code yX2_become cX2_become 2 none, Cond.fieldLink RX2 25 "PumiceSledge$Sledge" "holds" "I", Cond.fieldLink RX2 9 "PumiceSledge$Sledge" "weights" "[I", Cond.methodLink RX2 36 arraycopyName, Cond.fieldLink RX2 22 "PumiceSledge$Sledge" "aboard" "I", Cond.fieldLink RX2 15 "PumiceSledge$Sledge" "height" "I", Cond.fieldLink RX2 19 "PumiceSledge$Sledge" "course" "I", Cond.methodLink RX3 196 yX3_gustAt, Cond.instanceMethod yX3_gustAt]
def wsL_foresee_r3 : List Cond := [Cond.selects RX3 yX3_gustAt yX3_gustAt, Cond.code yX3_gustAt cX3_gustAt 2 (some .int), Cond.fieldLink RX3 16 "PumiceSledge" "gusts" "[I", Cond.methodLink RX3 269 yJ9_floorMod_7cf53, Cond.static yJ9_floorMod_7cf53, Cond.initialized RJ9, Cond.code yJ9_floorMod_7cf53 cJ9_floorMod_7cf53 3 (some .int), Cond.methodLink RX3 220 yX2_travel, Cond.instanceMethod yX2_travel, Cond.selects RX2 yX2_travel yX2_travel, Cond.code yX2_travel cX2_travel 3 none, Cond.methodLink RX2 42 yX2_comeDown, Cond.instanceMethod yX2_comeDown, Cond.selects RX2 yX2_comeDown yX2_comeDown, Cond.code yX2_comeDown cX2_comeDown 3 none, Cond.methodLink RX2 54 Lib.Math.max.name, Cond.static Lib.Math.max.name, Cond.initialized "java/lang/Math", Cond.code Lib.Math.max.name Lib.Math.max.code 2 (some .int), Cond.methodLink RX2 60 yX2_unload, Cond.instanceMethod yX2_unload, Cond.selects RX2 yX2_unload yX2_unload, Cond.code yX2_unload cX2_unload 3 none, Cond.static yX3_kindOf]
def wsL_foresee_r4 : List Cond := [Cond.code yX3_kindOf cX3_kindOf 1 (some .int), Cond.methodLink RX2 46 yX2_comeUp, Cond.instanceMethod yX2_comeUp, Cond.selects RX2 yX2_comeUp yX2_comeUp, Cond.code yX2_comeUp cX2_comeUp 1 none, Cond.methodLink RX2 67 Lib.Math.min.name, Cond.static Lib.Math.min.name, Cond.code Lib.Math.min.name Lib.Math.min.code 2 (some .int), Cond.methodLink RX3 202 yX1_allSacks, Cond.instanceMethod yX1_allSacks, Cond.selects RX1 yX1_allSacks yX1_allSacks, Cond.code yX1_allSacks cX1_allSacks 1 (some .int)]
def wsL_foresee : List Cond := .codeWith yL_foresee cL_foresee 5 (some .int) [(0, 10, 13, 15), (0, 10, 17, 13)] :: ((wsL_foresee_r1 ++ (wsL_foresee_r2 ++ (wsL_foresee_r3 ++ wsL_foresee_r4))) ++ wsX30 ++ wsX10 ++ wsX20 ++ (vx_atS RX3 66 "java/lang/IllegalArgumentException" ["java/lang/RuntimeException", "java/lang/Exception"]).filter goodWord ++ (vx_atS RX3 55 "java/lang/IndexOutOfBoundsException" ["java/lang/RuntimeException", "java/lang/Exception"]).filter goodWord)
def wsL_law0_r1 : List Cond := [Cond.classLink RL 8 RX3, Cond.instantiable RX3 12, Cond.initialized RX3, Cond.classLink RL 74 RX4, Cond.instantiable RX4 9, Cond.initialized RX4, Cond.arrayClass .long, Cond.methodLink RL 73 yX3_init, Cond.instanceMethod yX3_init, Cond.code yX3_init cX3_init 2 none, Cond.methodLink RX3 1 objectInit, Cond.instanceMethod objectInit, Cond.code objectInit ⟨#[0xb1]⟩ 1 none, Cond.arrayClass .int, Cond.fieldLink RX3 9 "PumiceSledge" "stones" "[I", Cond.fieldLink RX3 13 "PumiceSledge" "stoneWeights" "[I", Cond.fieldLink RX3 16 "PumiceSledge" "gusts" "[I", Cond.classLink RX3 19 RX2, Cond.fieldLink RX3 21 "PumiceSledge" "sledges" "[LPumiceSledge$Sledge;", Cond.classLink RX3 25 RX0, Cond.fieldLink RX3 27 "PumiceSledge" "boats" "[LPumiceSledge$Boat;", Cond.classLink RX3 31 RX1, Cond.instantiable RX1 2, Cond.initialized RX1]
def wsL_law0_r2 : List Cond := [Cond.fieldLink RX3 34 "PumiceSledge" "shore" "LPumiceSledge$Shore;", Cond.instantiable RX2 5, Cond.initialized RX2, Cond.fieldLink RX3 39 "PumiceSledge" "trial" "LPumiceSledge$Sledge;", Cond.fieldLink RX3 43 "PumiceSledge" "trialShore" "LPumiceSledge$Shore;", Cond.instantiable RX0 3, Cond.initialized RX0, Cond.instanceMethod yX1_init, Cond.code yX1_init cX1_init 1 none, Cond.methodLink RX1 3 objectInit, Cond.fieldLink RX1 9 "PumiceSledge$Shore" "sacks" "[I", Cond.instanceMethod yX2_init, Cond.code yX2_init cX2_init 1 none, Cond.methodLink RX2 3 objectInit, Cond.fieldLink RX2 9 "PumiceSledge$Sledge" "weights" "[I", Cond.fieldLink RX2 15 "PumiceSledge$Sledge" "height" "I", Cond.fieldLink RX2 19 "PumiceSledge$Sledge" "course" "I", Cond.instanceMethod yX0_init, Cond.code yX0_init cX0_init 1 none, Cond.methodLink RX0 1 objectInit, Cond.methodLink RL 76 yX4_init, Cond.instanceMethod yX4_init, Cond.code yX4_init cX4_init 1 none, Cond.methodLink RX4 3 objectInit]
def wsL_law0_r3 : List Cond := [Cond.fieldLink RX4 9 "PumiceSledgeModel" "stones" "[I", Cond.fieldLink RX4 13 "PumiceSledgeModel" "weights" "[I", Cond.fieldLink RX4 16 "PumiceSledgeModel" "gusts" "[I", Cond.fieldLink RX4 19 "PumiceSledgeModel" "slope" "[I", Cond.fieldLink RX4 22 "PumiceSledgeModel" "fleet" "[I", Cond.fieldLink RX4 25 "PumiceSledgeModel" "numbers" "[I", Cond.methodLink RL 77 yL_set, Cond.static yL_set, Cond.initialized RL, Cond.codeWith yL_set cL_set 6 (some .int) [(0, 12, 15, 13), (0, 12, 19, 15)], Cond.classLink RL 13 "java/lang/IndexOutOfBoundsException", Cond.classLink RL 15 "java/lang/IllegalArgumentException", Cond.methodLink RL 7 yX3_set, Cond.instanceMethod yX3_set, Cond.selects RX3 yX3_set yX3_set, Cond.code yX3_set cX3_set 5 (some .int), Cond.classLink RX3 51 "java/lang/IndexOutOfBoundsException", Cond.initialized "java/lang/IndexOutOfBoundsException", Cond.classLink RX3 62 "java/lang/IllegalArgumentException", Cond.initialized "java/lang/IllegalArgumentException", Cond.methodLink RX3 47 yX3_isLayer, Cond.static yX3_isLayer, Cond.code yX3_isLayer cX3_isLayer 1 (some .boolean), Cond.methodLink RX3 58 yX3_isWithin]
def wsL_law0_r4 : List Cond := [Cond.static yX3_isWithin, Cond.code yX3_isWithin cX3_isWithin 3 (some .boolean), Cond.methodLink RL 82 yX4_set, Cond.instanceMethod yX4_set, Cond.selects RX4 yX4_set yX4_set, Cond.code yX4_set cX4_set 5 (some .int), Cond.fieldLink RX4 28 "PumiceSledgeModel" "thrown" "I", Cond.methodLink RX4 42 yX4_isLayer, Cond.static yX4_isLayer, Cond.code yX4_isLayer cX4_isLayer 1 (some .boolean), Cond.methodLink RX4 35 yX4_isIn, Cond.static yX4_isIn, Cond.code yX4_isIn cX4_isIn 3 (some .boolean), Cond.methodLink RX4 46 yX4_fail, Cond.instanceMethod yX4_fail, Cond.selects RX4 yX4_fail yX4_fail, Cond.code yX4_fail cX4_fail 2 (some .int), Cond.methodLink RL 83 yX4_thrown, Cond.instanceMethod yX4_thrown, Cond.selects RX4 yX4_thrown yX4_thrown, Cond.code yX4_thrown cX4_thrown 1 (some .int), Cond.methodLink RL 87 yL_setGust, Cond.static yL_setGust, Cond.codeWith yL_setGust cL_setGust 5 (some .int) [(0, 10, 13, 13), (0, 10, 17, 15)]]
def wsL_law0_r5 : List Cond := [Cond.methodLink RL 17 yX3_setGust, Cond.instanceMethod yX3_setGust, Cond.selects RX3 yX3_setGust yX3_setGust, Cond.code yX3_setGust cX3_setGust 4 (some .int), Cond.methodLink RL 90 yX4_setGust, Cond.instanceMethod yX4_setGust, Cond.selects RX4 yX4_setGust yX4_setGust, Cond.code yX4_setGust cX4_setGust 4 (some .int), Cond.methodLink RL 91 yL_build, Cond.static yL_build, Cond.codeWith yL_build cL_build 4 (some .int) [(0, 9, 12, 15), (0, 9, 15, 25)], Cond.classLink RL 25 "java/lang/IllegalStateException", Cond.methodLink RL 21 yX3_build, Cond.instanceMethod yX3_build, Cond.selects RX3 yX3_build yX3_build, Cond.code yX3_build cX3_build 2 (some .int), Cond.classLink RX3 79 "java/lang/IllegalStateException", Cond.initialized "java/lang/IllegalStateException", Cond.fieldLink RX3 75 "PumiceSledge" "sledgeCount" "I", Cond.methodLink RL 94 yX4_build, Cond.instanceMethod yX4_build, Cond.selects RX4 yX4_build yX4_build, Cond.code yX4_build cX4_build 2 (some .int), Cond.fieldLink RX4 32 "PumiceSledgeModel" "sledges" "I"]
def wsL_law0_r6 : List Cond := [Cond.methodLink RX4 50 yX4_put, Cond.instanceMethod yX4_put, Cond.selects RX4 yX4_put yX4_put, Cond.code yX4_put cX4_put 4 none, Cond.methodLink RL 95 yL_fill, Cond.static yL_fill, Cond.codeWith yL_fill cL_fill 5 (some .int) [(0, 10, 13, 13), (0, 10, 17, 25)], Cond.methodLink RL 27 yX3_fill, Cond.instanceMethod yX3_fill, Cond.selects RX3 yX3_fill yX3_fill, Cond.code yX3_fill cX3_fill 5 (some .int), Cond.methodLink RX3 87 yX3_isSledge, Cond.instanceMethod yX3_isSledge, Cond.selects RX3 yX3_isSledge yX3_isSledge, Cond.code yX3_isSledge cX3_isSledge 2 (some .boolean), Cond.methodLink RX3 97 yX2_isFull, Cond.instanceMethod yX2_isFull, Cond.selects RX2 yX2_isFull yX2_isFull, Cond.code yX2_isFull cX2_isFull 1 (some .boolean), Cond.fieldLink RX2 22 "PumiceSledge$Sledge" "aboard" "I", Cond.fieldLink RX2 25 "PumiceSledge$Sledge" "holds" "I", Cond.methodLink RX3 105 yX3_sackWeight, Cond.instanceMethod yX3_sackWeight, Cond.selects RX3 yX3_sackWeight yX3_sackWeight]
def wsL_law0_r7 : List Cond := [Cond.code yX3_sackWeight cX3_sackWeight 2 (some .int), Cond.methodLink RX3 109 yX2_load, Cond.instanceMethod yX2_load, Cond.selects RX2 yX2_load yX2_load, Cond.code yX2_load cX2_load 2 none, Cond.methodLink RX2 28 yX2_isFull, Cond.methodLink RX3 113 yX3_kindOf, Cond.static yX3_kindOf, Cond.code yX3_kindOf cX3_kindOf 1 (some .int), Cond.methodLink RL 97 yX4_fill, Cond.instanceMethod yX4_fill, Cond.selects RX4 yX4_fill yX4_fill, Cond.code yX4_fill cX4_fill 3 (some .int), Cond.methodLink RX4 54 yX4_isSledge, Cond.instanceMethod yX4_isSledge, Cond.selects RX4 yX4_isSledge yX4_isSledge, Cond.code yX4_isSledge cX4_isSledge 2 (some .boolean), Cond.methodLink RX4 57 yX4_sl, Cond.instanceMethod yX4_sl, Cond.selects RX4 yX4_sl yX4_sl, Cond.code yX4_sl cX4_sl 3 (some .int), Cond.methodLink RX4 61 yX4_kind, Cond.static yX4_kind, Cond.code yX4_kind cX4_kind 1 (some .int)]
def wsL_law0_r8 : List Cond := [Cond.methodLink RL 98 yL_go, Cond.static yL_go, Cond.codeWith yL_go cL_go 4 (some .int) [(0, 9, 12, 13), (0, 9, 15, 25)], Cond.methodLink RL 30 yX3_go, Cond.instanceMethod yX3_go, Cond.selects RX3 yX3_go yX3_go, Cond.code yX3_go cX3_go 3 (some .int), Cond.methodLink RL 100 yX4_go, Cond.instanceMethod yX4_go, Cond.selects RX4 yX4_go yX4_go, Cond.code yX4_go cX4_go 2 (some .int), Cond.methodLink RL 101 yL_launch, Cond.static yL_launch, Cond.codeWith yL_launch cL_launch 4 (some .int) [(0, 9, 12, 15), (0, 9, 15, 25)], Cond.methodLink RL 33 yX3_launch, Cond.instanceMethod yX3_launch, Cond.selects RX3 yX3_launch yX3_launch, Cond.code yX3_launch cX3_launch 2 (some .int), Cond.fieldLink RX3 121 "PumiceSledge" "boatCount" "I", Cond.methodLink RL 103 yX4_launch, Cond.instanceMethod yX4_launch, Cond.selects RX4 yX4_launch yX4_launch, Cond.code yX4_launch cX4_launch 2 (some .int), Cond.fieldLink RX4 39 "PumiceSledgeModel" "boats" "I"]
def wsL_law0_r9 : List Cond := [Cond.methodLink RL 104 yL_stow, Cond.static yL_stow, Cond.codeWith yL_stow cL_stow 6 (some .int) [(0, 12, 15, 13), (0, 12, 19, 25)], Cond.methodLink RL 36 yX3_stow, Cond.instanceMethod yX3_stow, Cond.selects RX3 yX3_stow yX3_stow, Cond.code yX3_stow cX3_stow 6 (some .int), Cond.methodLink RX3 129 yX3_isBoat, Cond.instanceMethod yX3_isBoat, Cond.selects RX3 yX3_isBoat yX3_isBoat, Cond.code yX3_isBoat cX3_isBoat 2 (some .boolean), Cond.methodLink RX3 134 yX3_isKind, Cond.static yX3_isKind, Cond.code yX3_isKind cX3_isKind 1 (some .boolean), Cond.methodLink RX3 139 yX3_stowedWeight, Cond.static yX3_stowedWeight, Cond.code yX3_stowedWeight cX3_stowedWeight 1 (some .int), Cond.methodLink RX3 147 yX0_room, Cond.instanceMethod yX0_room, Cond.selects RX0 yX0_room yX0_room, Cond.code yX0_room cX0_room 1 (some .int), Cond.fieldLink RX0 33 "PumiceSledge$Boat" "mostLoad" "I", Cond.fieldLink RX0 7 "PumiceSledge$Boat" "fore" "I", Cond.fieldLink RX0 13 "PumiceSledge$Boat" "aft" "I"]
def wsL_law0_r10 : List Cond := [Cond.methodLink RX3 159 yX0_trim, Cond.instanceMethod yX0_trim, Cond.selects RX0 yX0_trim yX0_trim, Cond.code yX0_trim cX0_trim 1 (some .int), Cond.methodLink RL 107 yX4_stow, Cond.instanceMethod yX4_stow, Cond.selects RX4 yX4_stow yX4_stow, Cond.code yX4_stow cX4_stow 4 (some .int), Cond.methodLink RX4 75 yX4_isBoat, Cond.instanceMethod yX4_isBoat, Cond.selects RX4 yX4_isBoat yX4_isBoat, Cond.code yX4_isBoat cX4_isBoat 2 (some .boolean), Cond.methodLink RX4 78 yX4_all, Cond.instanceMethod yX4_all, Cond.selects RX4 yX4_all yX4_all, Cond.code yX4_all cX4_all 2 (some .int), Cond.methodLink RX4 64 yX4_bo, Cond.instanceMethod yX4_bo, Cond.selects RX4 yX4_bo yX4_bo, Cond.code yX4_bo cX4_bo 3 (some .int), Cond.methodLink RX4 81 yX4_stowed, Cond.static yX4_stowed, Cond.code yX4_stowed cX4_stowed 1 (some .int), Cond.methodLink RL 108 yL_sail]
def wsL_law0_r11 : List Cond := [Cond.static yL_sail, Cond.codeWith yL_sail cL_sail 4 (some .int) [(0, 9, 12, 13), (0, 9, 15, 25)], Cond.methodLink RL 40 yX3_sail, Cond.instanceMethod yX3_sail, Cond.selects RX3 yX3_sail yX3_sail, Cond.code yX3_sail cX3_sail 4 (some .int), Cond.fieldLink RX3 170 "PumiceSledge" "coins" "I", Cond.methodLink RX3 162 yX0_canSail, Cond.instanceMethod yX0_canSail, Cond.selects RX0 yX0_canSail yX0_canSail, Cond.code yX0_canSail cX0_canSail 1 (some .boolean), Cond.methodLink RX0 22 yX0_depth, Cond.instanceMethod yX0_depth, Cond.selects RX0 yX0_depth yX0_depth, Cond.code yX0_depth cX0_depth 1 (some .int), Cond.static yX3_depthOf, Cond.code yX3_depthOf cX3_depthOf 2 (some .int), Cond.methodLink RX3 274 Lib.Math.abs.name, Cond.static Lib.Math.abs.name, Cond.initialized "java/lang/Math", Cond.code Lib.Math.abs.name Lib.Math.abs.code 1 (some .int), Cond.methodLink RX0 26 yX0_trim, Cond.methodLink RX3 167 yX0_worth, Cond.instanceMethod yX0_worth]
def wsL_law0_r12 : List Cond := [Cond.selects RX0 yX0_worth yX0_worth, Cond.code yX0_worth cX0_worth 1 (some .int), Cond.methodLink RL 110 yX4_sail, Cond.instanceMethod yX4_sail, Cond.selects RX4 yX4_sail yX4_sail, Cond.code yX4_sail cX4_sail 3 (some .int), Cond.methodLink RX4 84 yX4_canSail, Cond.instanceMethod yX4_canSail, Cond.selects RX4 yX4_canSail yX4_canSail, Cond.code yX4_canSail cX4_canSail 2 (some .boolean), Cond.methodLink RX4 72 yX4_depth, Cond.static yX4_depth, Cond.code yX4_depth cX4_depth 2 (some .int), Cond.methodLink RX4 67 Lib.Math.abs.name, Cond.methodLink RL 111 yL_layer, Cond.static yL_layer, Cond.codeWith yL_layer cL_layer 5 (some .int) [(0, 10, 13, 13)], Cond.methodLink RL 43 yX3_layer, Cond.instanceMethod yX3_layer, Cond.selects RX3 yX3_layer yX3_layer, Cond.code yX3_layer cX3_layer 3 (some .int), Cond.methodLink RL 113 yX4_layer, Cond.instanceMethod yX4_layer, Cond.selects RX4 yX4_layer yX4_layer]
def wsL_law0_r13 : List Cond := [Cond.code yX4_layer cX4_layer 3 (some .int), Cond.methodLink RX4 87 yX4_layerTold, Cond.instanceMethod yX4_layerTold, Cond.selects RX4 yX4_layerTold yX4_layerTold, Cond.code yX4_layerTold cX4_layerTold 3 (some .int), Cond.methodLink RL 114 yL_told, Cond.static yL_told, Cond.codeWith yL_told cL_told 5 (some .int) [(0, 10, 13, 13)], Cond.methodLink RL 46 yX3_told, Cond.instanceMethod yX3_told, Cond.selects RX3 yX3_told yX3_told, Cond.code yX3_told cX3_told 4 (some .int), Cond.methodLink RX3 180 yX2_weightAboard, Cond.instanceMethod yX2_weightAboard, Cond.selects RX2 yX2_weightAboard yX2_weightAboard, Cond.code yX2_weightAboard cX2_weightAboard 3 (some .int), Cond.methodLink RX3 183 yX2_lastKind, Cond.instanceMethod yX2_lastKind, Cond.selects RX2 yX2_lastKind yX2_lastKind, Cond.code yX2_lastKind cX2_lastKind 1 (some .int), Cond.methodLink RL 116 yX4_told, Cond.instanceMethod yX4_told, Cond.selects RX4 yX4_told yX4_told, Cond.code yX4_told cX4_told 3 (some .int)]
def wsL_law0_r14 : List Cond := [Cond.methodLink RX4 90 yX4_sledgeTold, Cond.instanceMethod yX4_sledgeTold, Cond.selects RX4 yX4_sledgeTold yX4_sledgeTold, Cond.code yX4_sledgeTold cX4_sledgeTold 6 (some .int), Cond.methodLink RL 117 yL_boat, Cond.static yL_boat, Cond.codeWith yL_boat cL_boat 5 (some .int) [(0, 10, 13, 13)], Cond.methodLink RL 49 yX3_boat, Cond.instanceMethod yX3_boat, Cond.selects RX3 yX3_boat yX3_boat, Cond.code yX3_boat cX3_boat 4 (some .int), Cond.methodLink RX3 188 yX0_depth, Cond.methodLink RL 119 yX4_boat, Cond.instanceMethod yX4_boat, Cond.selects RX4 yX4_boat yX4_boat, Cond.code yX4_boat cX4_boat 3 (some .int), Cond.methodLink RX4 93 yX4_boatTold, Cond.instanceMethod yX4_boatTold, Cond.selects RX4 yX4_boatTold yX4_boatTold, Cond.code yX4_boatTold cX4_boatTold 3 (some .int), Cond.methodLink RL 120 yL_beach, Cond.static yL_beach, Cond.codeWith yL_beach cL_beach 4 (some .int) [(0, 9, 12, 13)], Cond.methodLink RL 52 yX3_beach]
def wsL_law0_r15 : List Cond := [Cond.instanceMethod yX3_beach, Cond.selects RX3 yX3_beach yX3_beach, Cond.code yX3_beach cX3_beach 2 (some .int), Cond.methodLink RL 122 yX4_beach, Cond.instanceMethod yX4_beach, Cond.selects RX4 yX4_beach yX4_beach, Cond.code yX4_beach cX4_beach 2 (some .int), Cond.methodLink RL 123 yL_count, Cond.static yL_count, Cond.codeWith yL_count cL_count 4 (some .int) [(0, 9, 12, 13)], Cond.methodLink RL 55 yX3_count, Cond.instanceMethod yX3_count, Cond.selects RX3 yX3_count yX3_count, Cond.code yX3_count cX3_count 2 (some .int), Cond.fieldLink RX3 193 "PumiceSledge" "hour" "I", Cond.methodLink RX3 196 yX3_gustAt, Cond.instanceMethod yX3_gustAt, Cond.selects RX3 yX3_gustAt yX3_gustAt, Cond.code yX3_gustAt cX3_gustAt 2 (some .int), Cond.methodLink RX3 269 yJ9_floorMod_7cf53, Cond.static yJ9_floorMod_7cf53, Cond.initialized RJ9, Cond.code yJ9_floorMod_7cf53 cJ9_floorMod_7cf53 3 (some .int), Cond.methodLink RX3 199 yX3_sacksAboard]
def wsL_law0_r16 : List Cond := [Cond.instanceMethod yX3_sacksAboard, Cond.selects RX3 yX3_sacksAboard yX3_sacksAboard, Cond.code yX3_sacksAboard cX3_sacksAboard 3 (some .int), Cond.methodLink RX3 202 yX1_allSacks, Cond.instanceMethod yX1_allSacks, Cond.selects RX1 yX1_allSacks yX1_allSacks, Cond.code yX1_allSacks cX1_allSacks 1 (some .int), Cond.methodLink RX3 208 yX3_allStones, Cond.instanceMethod yX3_allStones, Cond.selects RX3 yX3_allStones yX3_allStones, Cond.code yX3_allStones cX3_allStones 3 (some .int), Cond.methodLink RL 125 yX4_count, Cond.instanceMethod yX4_count, Cond.selects RX4 yX4_count yX4_count, Cond.code yX4_count cX4_count 2 (some .int), Cond.methodLink RX4 106 yX4_counted, Cond.instanceMethod yX4_counted, Cond.selects RX4 yX4_counted yX4_counted, Cond.code yX4_counted cX4_counted 7 (some .int), Cond.methodLink RX4 96 yX4_gust, Cond.instanceMethod yX4_gust, Cond.selects RX4 yX4_gust yX4_gust, Cond.code yX4_gust cX4_gust 1 (some .int), Cond.methodLink RX4 100 yX4_aboard]
def wsL_law0_r17 : List Cond := [Cond.instanceMethod yX4_aboard, Cond.selects RX4 yX4_aboard yX4_aboard, Cond.code yX4_aboard cX4_aboard 3 (some .int), Cond.methodLink RX4 103 yX4_ashore, Cond.instanceMethod yX4_ashore, Cond.selects RX4 yX4_ashore yX4_ashore, Cond.code yX4_ashore cX4_ashore 1 (some .int), Cond.methodLink RL 126 yL_pass, Cond.static yL_pass, Cond.codeWith yL_pass cL_pass 4 (some .int) [(0, 9, 12, 15)], Cond.methodLink RL 58 yX3_pass, Cond.instanceMethod yX3_pass, Cond.selects RX3 yX3_pass yX3_pass, Cond.code yX3_pass cX3_pass 4 (some .int), Cond.methodLink RX3 213 yX3_passOneHour, Cond.instanceMethod yX3_passOneHour, Cond.selects RX3 yX3_passOneHour yX3_passOneHour, Cond.code yX3_passOneHour cX3_passOneHour 3 none, Cond.methodLink RX3 220 yX2_travel, Cond.instanceMethod yX2_travel, Cond.selects RX2 yX2_travel yX2_travel, Cond.code yX2_travel cX2_travel 3 none, Cond.methodLink RX2 42 yX2_comeDown, Cond.instanceMethod yX2_comeDown]
def wsL_law0_r18 : List Cond := [Cond.selects RX2 yX2_comeDown yX2_comeDown, Cond.code yX2_comeDown cX2_comeDown 3 none, Cond.methodLink RX2 54 Lib.Math.max.name, Cond.static Lib.Math.max.name, Cond.code Lib.Math.max.name Lib.Math.max.code 2 (some .int), Cond.methodLink RX2 60 yX2_unload, Cond.instanceMethod yX2_unload, Cond.selects RX2 yX2_unload yX2_unload, Cond.code yX2_unload cX2_unload 3 none, Cond.methodLink RX2 46 yX2_comeUp, Cond.instanceMethod yX2_comeUp, Cond.selects RX2 yX2_comeUp yX2_comeUp, Cond.code yX2_comeUp cX2_comeUp 1 none, Cond.methodLink RX2 67 Lib.Math.min.name, Cond.static Lib.Math.min.name, Cond.code Lib.Math.min.name Lib.Math.min.code 2 (some .int), Cond.methodLink RL 128 yX4_pass, Cond.instanceMethod yX4_pass, Cond.selects RX4 yX4_pass yX4_pass, Cond.code yX4_pass cX4_pass 2 (some .int), Cond.methodLink RX4 128 yX4_hoursOn, Cond.instanceMethod yX4_hoursOn, Cond.selects RX4 yX4_hoursOn yX4_hoursOn, Cond.code yX4_hoursOn cX4_hoursOn 4 (some .int)]
def wsL_law0_r19 : List Cond := [Cond.methodLink RX4 125 yX4_hourOn, Cond.instanceMethod yX4_hourOn, Cond.selects RX4 yX4_hourOn yX4_hourOn, Cond.code yX4_hourOn cX4_hourOn 2 none, Cond.methodLink RX4 115 yX4_slide, Cond.instanceMethod yX4_slide, Cond.selects RX4 yX4_slide yX4_slide, Cond.code yX4_slide cX4_slide 2 none, Cond.methodLink RX4 109 Lib.Math.max.name, Cond.methodLink RX4 119 yX4_climb, Cond.instanceMethod yX4_climb, Cond.selects RX4 yX4_climb yX4_climb, Cond.code yX4_climb cX4_climb 2 none, Cond.methodLink RX4 112 Lib.Math.min.name, Cond.methodLink RX4 122 yX4_unload, Cond.instanceMethod yX4_unload, Cond.selects RX4 yX4_unload yX4_unload, Cond.code yX4_unload cX4_unload 3 none, Cond.methodLink RL 129 yL_back, Cond.static yL_back, Cond.codeWith yL_back cL_back 4 (some .int) [(0, 9, 12, 13)], Cond.methodLink RL 61 yX3_back, Cond.instanceMethod yX3_back, Cond.selects RX3 yX3_back yX3_back]
def wsL_law0_r20 : List Cond := [Cond.code yX3_back cX3_back 3 (some .int), Cond.methodLink RX3 216 yX2_become, Cond.instanceMethod yX2_become, Cond.selects RX2 yX2_become yX2_become, Cond.code yX2_become cX2_become 2 none, Cond.methodLink RX2 36 arraycopyName, Cond.native arraycopyName, Cond.static arraycopyName, Cond.initialized "java/lang/System", Cond.methodLink RL 131 yX4_back, Cond.instanceMethod yX4_back, Cond.selects RX4 yX4_back yX4_back, Cond.code yX4_back cX4_back 4 (some .int), Cond.methodLink RX4 142 yX4_kept, Cond.instanceMethod yX4_kept, Cond.selects RX4 yX4_kept yX4_kept, Cond.code yX4_kept cX4_kept 1 (some (.array (.array .int))), Cond.classLink RX4 131 "[I", Cond.methodLink RX4 132 ⟨"[I", "clone", "()Ljava/lang/Object;"⟩, Cond.sameMethod "[I" "java/lang/Object" "clone" "()Ljava/lang/Object;", Cond.native ⟨"java/lang/Object", "clone", "()Ljava/lang/Object;"⟩, Cond.instanceMethod ⟨"java/lang/Object", "clone", "()Ljava/lang/Object;"⟩, Cond.selects "[I" ⟨"[I", "clone", "()Ljava/lang/Object;"⟩ ⟨"java/lang/Object", "clone", "()Ljava/lang/Object;"⟩, Cond.methodLink RX4 146 yX4_bringBack]
def wsL_law0_r21 : List Cond := [Cond.instanceMethod yX4_bringBack, Cond.selects RX4 yX4_bringBack yX4_bringBack, Cond.code yX4_bringBack cX4_bringBack 2 none, Cond.methodLink RX4 136 arraycopyName, Cond.methodLink RL 132 yL_arrives, Cond.static yL_arrives, Cond.codeWith yL_arrives cL_arrives 4 (some .int) [(0, 9, 12, 13)], Cond.methodLink RL 64 yX3_arrives, Cond.instanceMethod yX3_arrives, Cond.selects RX3 yX3_arrives yX3_arrives, Cond.code yX3_arrives cX3_arrives 4 (some .int), Cond.methodLink RL 134 yX4_arrives, Cond.instanceMethod yX4_arrives, Cond.selects RX4 yX4_arrives yX4_arrives, Cond.code yX4_arrives cX4_arrives 4 (some .int), Cond.methodLink RL 135 yL_advise, Cond.static yL_advise, Cond.codeWith yL_advise cL_advise 5 (some .int) [(0, 10, 13, 13)], Cond.methodLink RL 67 yX3_advise, Cond.instanceMethod yX3_advise, Cond.selects RX3 yX3_advise yX3_advise, Cond.code yX3_advise cX3_advise 7 (some .int), Cond.methodLink RX3 224 yX3_depthOf, Cond.methodLink RL 137 yX4_advise]
def wsL_law0_r22 : List Cond := [Cond.instanceMethod yX4_advise, Cond.selects RX4 yX4_advise yX4_advise, Cond.code yX4_advise cX4_advise 3 (some .int), Cond.methodLink RL 138 yL_foresee, Cond.static yL_foresee, Cond.codeWith yL_foresee cL_foresee 5 (some .int) [(0, 10, 13, 15), (0, 10, 17, 13)], Cond.methodLink RL 70 yX3_foresee, Cond.instanceMethod yX3_foresee, Cond.selects RX3 yX3_foresee yX3_foresee, Cond.code yX3_foresee cX3_foresee 5 (some .int), Cond.methodLink RX3 230 yX1_become, Cond.instanceMethod yX1_become, Cond.selects RX1 yX1_become yX1_become, Cond.code yX1_become cX1_become 2 none, Cond.methodLink RX1 15 arraycopyName, Cond.fieldLink RX1 21 "PumiceSledge$Shore" "lost" "I", Cond.methodLink RX3 233 yX3_aboardBehind, Cond.instanceMethod yX3_aboardBehind, Cond.selects RX3 yX3_aboardBehind yX3_aboardBehind, Cond.code yX3_aboardBehind cX3_aboardBehind 4 (some .int), Cond.methodLink RL 140 yX4_foresee, Cond.instanceMethod yX4_foresee, Cond.selects RX4 yX4_foresee yX4_foresee, Cond.code yX4_foresee cX4_foresee 5 (some .int)]
def wsL_law0_r23 : List Cond := [Cond.methodLink RL 141 yX3_mean, Cond.instanceMethod yX3_mean, Cond.selects RX3 yX3_mean yX3_mean, Cond.code yX3_mean cX3_mean 4 (some .double), Cond.methodLink RL 145 yX4_mean, Cond.instanceMethod yX4_mean, Cond.selects RX4 yX4_mean yX4_mean, Cond.code yX4_mean cX4_mean 3 (some .double), Cond.methodLink RL 146 yX3_digest, Cond.instanceMethod yX3_digest, Cond.selects RX3 yX3_digest yX3_digest, Cond.code yX3_digest cX3_digest 4 (some .long), Cond.constantLong RX3 237 (1321), Cond.methodLink RX3 239 yX3_count, Cond.methodLink RX3 242 yX3_mixed, Cond.static yX3_mixed, Cond.code yX3_mixed cX3_mixed 3 (some .long), Cond.constantLong RX3 267 (31), Cond.methodLink RX3 246 yX3_withLayer, Cond.instanceMethod yX3_withLayer, Cond.selects RX3 yX3_withLayer yX3_withLayer, Cond.code yX3_withLayer cX3_withLayer 5 (some .long), Cond.methodLink RX3 255 yX3_layer, Cond.methodLink RX3 249 yX3_withSledge]
def wsL_law0_r24 : List Cond := [Cond.instanceMethod yX3_withSledge, Cond.selects RX3 yX3_withSledge yX3_withSledge, Cond.code yX3_withSledge cX3_withSledge 6 (some .long), Cond.methodLink RX3 258 yX3_told, Cond.methodLink RX3 252 yX3_withBoat, Cond.instanceMethod yX3_withBoat, Cond.selects RX3 yX3_withBoat yX3_withBoat, Cond.code yX3_withBoat cX3_withBoat 5 (some .long), Cond.methodLink RX3 264 yX3_boat, Cond.methodLink RL 150 yX4_digest, Cond.instanceMethod yX4_digest, Cond.selects RX4 yX4_digest yX4_digest, Cond.code yX4_digest cX4_digest 7 (some .long), Cond.constantLong RX4 150 (1321), Cond.constantLong RX4 152 (31)]
def wsL_law0 : List Cond := (wsL_law0_r1 ++ (wsL_law0_r2 ++ (wsL_law0_r3 ++ (wsL_law0_r4 ++ (wsL_law0_r5 ++ (wsL_law0_r6 ++ (wsL_law0_r7 ++ (wsL_law0_r8 ++ (wsL_law0_r9 ++ (wsL_law0_r10 ++ (wsL_law0_r11 ++ (wsL_law0_r12 ++ (wsL_law0_r13 ++ (wsL_law0_r14 ++ (wsL_law0_r15 ++ (wsL_law0_r16 ++ (wsL_law0_r17 ++ (wsL_law0_r18 ++ (wsL_law0_r19 ++ (wsL_law0_r20 ++ (wsL_law0_r21 ++ (wsL_law0_r22 ++ (wsL_law0_r23 ++ wsL_law0_r24))))))))))))))))))))))) ++ wsX30 ++ wsX40 ++ wsX10 ++ wsX20 ++ wsX00 ++ ([] : List Cond)
def wsL_law : List Cond := wsL_law0 ++ (vx_atS RX3 55 "java/lang/IndexOutOfBoundsException" ["java/lang/RuntimeException", "java/lang/Exception"]).filter goodWord ++ (vx_atS RX3 66 "java/lang/IllegalArgumentException" ["java/lang/RuntimeException", "java/lang/Exception"]).filter goodWord ++ (vx_atS RX3 83 "java/lang/IllegalStateException" ["java/lang/RuntimeException", "java/lang/Exception"]).filter goodWord
set_option maxRecDepth 20000 in
theorem z_in_r1 : ∀ w ∈ wsL_law0_r1, w ∈ lw_tbl := fun w h => (goodIn_r wsL_law0_r1 [51, 52, 38, 577, 578, 42, 812, 53, 54, 55, 56, 57, 58, 80, 125, 126, 127, 59, 128, 61, 130, 63, 64, 39] (by decide +kernel) (by decide +kernel) w h).1
set_option maxRecDepth 20000 in
theorem z_in_r2 : ∀ w ∈ wsL_law0_r2, w ∈ lw_tbl := fun w h => (goodIn_r wsL_law0_r2 [132, 81, 40, 135, 136, 107, 41, 66, 67, 68, 69, 83, 84, 85, 88, 92, 94, 109, 110, 111, 579, 580, 581, 582] (by decide +kernel) (by decide +kernel) w h).1
set_option maxRecDepth 20000 in
theorem z_in_r3 : ∀ w ∈ wsL_law0_r3, w ∈ lw_tbl := fun w h => (goodIn_r wsL_law0_r3 [586, 587, 588, 589, 590, 591, 351, 352, 37, 353, 354, 355, 356, 357, 358, 359, 186, 46, 360, 47, 281, 282, 283, 183] (by decide +kernel) (by decide +kernel) w h).1
set_option maxRecDepth 20000 in
theorem z_in_r4 : ∀ w ∈ wsL_law0_r4, w ∈ lw_tbl := fun w h => (goodIn_r wsL_law0_r4 [184, 185, 615, 616, 617, 618, 583, 619, 620, 621, 622, 623, 624, 625, 627, 15, 628, 611, 612, 613, 614, 377, 378, 379] (by decide +kernel) (by decide +kernel) w h).1
set_option maxRecDepth 20000 in
theorem z_in_r5 : ∀ w ∈ wsL_law0_r5, w ∈ lw_tbl := fun w h => (goodIn_r wsL_law0_r5 [380, 381, 382, 383, 629, 630, 631, 632, 386, 387, 388, 389, 390, 391, 392, 393, 395, 48, 129, 633, 634, 635, 636, 584] (by decide +kernel) (by decide +kernel) w h).1
set_option maxRecDepth 20000 in
theorem z_in_r6 : ∀ w ∈ wsL_law0_r6, w ∈ lw_tbl := fun w h => (goodIn_r wsL_law0_r6 [637, 639, 16, 640, 411, 412, 413, 414, 415, 416, 417, 301, 303, 7, 304, 419, 420, 421, 422, 90, 86, 286, 288, 5] (by decide +kernel) (by decide +kernel) w h).1
set_option maxRecDepth 20000 in
theorem z_in_r7 : ∀ w ∈ wsL_law0_r7, w ∈ lw_tbl := fun w h => (goodIn_r wsL_law0_r7 [289, 425, 426, 427, 428, 429, 290, 291, 292, 641, 642, 643, 644, 645, 647, 17, 648, 649, 651, 18, 652, 653, 654, 655] (by decide +kernel) (by decide +kernel) w h).1
set_option maxRecDepth 20000 in
theorem z_in_r8 : ∀ w ∈ wsL_law0_r8, w ∈ lw_tbl := fun w h => (goodIn_r wsL_law0_r8 [430, 431, 432, 433, 434, 435, 436, 656, 657, 658, 659, 437, 438, 439, 440, 441, 442, 443, 131, 660, 661, 662, 663, 585] (by decide +kernel) (by decide +kernel) w h).1
set_option maxRecDepth 20000 in
theorem z_in_r9 : ∀ w ∈ wsL_law0_r9, w ∈ lw_tbl := fun w h => (goodIn_r wsL_law0_r9 [446, 447, 448, 449, 450, 451, 452, 320, 322, 9, 323, 453, 454, 455, 457, 458, 459, 347, 348, 349, 350, 112, 114, 116] (by decide +kernel) (by decide +kernel) w h).1
set_option maxRecDepth 20000 in
theorem z_in_r10 : ∀ w ∈ wsL_law0_r10, w ∈ lw_tbl := fun w h => (goodIn_r wsL_law0_r10 [326, 327, 328, 329, 664, 665, 666, 667, 668, 670, 19, 671, 672, 674, 20, 675, 676, 678, 21, 679, 680, 681, 682, 462] (by decide +kernel) (by decide +kernel) w h).1
set_option maxRecDepth 20000 in
theorem z_in_r11 : ∀ w ∈ wsL_law0_r11, w ∈ lw_tbl := fun w h => (goodIn_r wsL_law0_r11 [463, 464, 465, 466, 467, 468, 134, 340, 341, 342, 343, 344, 331, 332, 333, 335, 336, 337, 338, 49, 339, 345, 470, 471] (by decide +kernel) (by decide +kernel) w h).1
set_option maxRecDepth 20000 in
theorem z_in_r12 : ∀ w ∈ wsL_law0_r12, w ∈ lw_tbl := fun w h => (goodIn_r wsL_law0_r12 [472, 473, 683, 684, 685, 686, 687, 689, 22, 690, 691, 692, 693, 694, 474, 475, 476, 477, 278, 279, 280, 695, 696, 697] (by decide +kernel) (by decide +kernel) w h).1
set_option maxRecDepth 20000 in
theorem z_in_r13 : ∀ w ∈ wsL_law0_r13, w ∈ lw_tbl := fun w h => (goodIn_r wsL_law0_r13 [698, 699, 701, 23, 702, 478, 479, 480, 481, 298, 299, 300, 170, 171, 172, 173, 307, 308, 309, 310, 703, 704, 705, 706] (by decide +kernel) (by decide +kernel) w h).1
set_option maxRecDepth 20000 in
theorem z_in_r14 : ∀ w ∈ wsL_law0_r14, w ∈ lw_tbl := fun w h => (goodIn_r wsL_law0_r14 [707, 709, 24, 710, 482, 483, 484, 485, 317, 318, 319, 330, 711, 712, 713, 714, 715, 717, 25, 718, 486, 487, 488, 489] (by decide +kernel) (by decide +kernel) w h).1
set_option maxRecDepth 20000 in
theorem z_in_r15 : ∀ w ∈ wsL_law0_r15, w ∈ lw_tbl := fun w h => (goodIn_r wsL_law0_r15 [490, 491, 492, 719, 720, 721, 722, 493, 494, 495, 496, 180, 181, 182, 133, 254, 256, 2, 257, 258, 259, 49, 260, 166] (by decide +kernel) (by decide +kernel) w h).1
set_option maxRecDepth 20000 in
theorem z_in_r16 : ∀ w ∈ wsL_law0_r16, w ∈ lw_tbl := fun w h => (goodIn_r wsL_law0_r16 [168, 0, 169, 261, 262, 263, 264, 265, 267, 3, 268, 723, 724, 725, 726, 727, 729, 26, 730, 731, 733, 27, 734, 735] (by decide +kernel) (by decide +kernel) w h).1
set_option maxRecDepth 20000 in
theorem z_in_r17 : ∀ w ∈ wsL_law0_r17, w ∈ lw_tbl := fun w h => (goodIn_r wsL_law0_r17 [737, 28, 738, 739, 741, 29, 742, 497, 498, 499, 500, 501, 502, 503, 505, 507, 10, 508, 509, 510, 511, 512, 513, 515] (by decide +kernel) (by decide +kernel) w h).1
set_option maxRecDepth 20000 in
theorem z_in_r18 : ∀ w ∈ wsL_law0_r18, w ∈ lw_tbl := fun w h => (goodIn_r wsL_law0_r18 [11, 516, 517, 518, 519, 520, 522, 12, 523, 524, 526, 13, 527, 528, 529, 530, 743, 744, 745, 746, 747, 749, 30, 750] (by decide +kernel) (by decide +kernel) w h).1
set_option maxRecDepth 20000 in
theorem z_in_r19 : ∀ w ∈ wsL_law0_r19, w ∈ lw_tbl := fun w h => (goodIn_r wsL_law0_r19 [751, 753, 31, 754, 755, 757, 32, 758, 759, 760, 762, 33, 763, 764, 765, 767, 34, 768, 531, 532, 533, 534, 535, 536] (by decide +kernel) (by decide +kernel) w h).1
set_option maxRecDepth 20000 in
theorem z_in_r20 : ∀ w ∈ wsL_law0_r20, w ∈ lw_tbl := fun w h => (goodIn_r wsL_law0_r20 [537, 538, 539, 540, 541, 542, 544, 543, 50, 769, 770, 771, 772, 773, 775, 35, 776, 777, 779, 780, 781, 782, 783, 785] (by decide +kernel) (by decide +kernel) w h).1
set_option maxRecDepth 20000 in
theorem z_in_r21 : ∀ w ∈ wsL_law0_r21, w ∈ lw_tbl := fun w h => (goodIn_r wsL_law0_r21 [787, 36, 788, 789, 545, 546, 547, 548, 549, 550, 551, 790, 791, 792, 793, 552, 553, 554, 555, 556, 557, 558, 559, 794] (by decide +kernel) (by decide +kernel) w h).1
set_option maxRecDepth 20000 in
theorem z_in_r22 : ∀ w ∈ wsL_law0_r22, w ∈ lw_tbl := fun w h => (goodIn_r wsL_law0_r22 [795, 796, 797, 560, 561, 562, 563, 564, 565, 566, 568, 569, 570, 571, 572, 72, 573, 575, 14, 576, 798, 799, 800, 801] (by decide +kernel) (by decide +kernel) w h).1
set_option maxRecDepth 20000 in
theorem z_in_r23 : ∀ w ∈ wsL_law0_r23, w ∈ lw_tbl := fun w h => (goodIn_r wsL_law0_r23 [162, 163, 164, 165, 802, 803, 804, 805, 174, 175, 176, 177, 178, 179, 269, 270, 271, 272, 273, 275, 4, 276, 277, 293] (by decide +kernel) (by decide +kernel) w h).1
set_option maxRecDepth 20000 in
theorem z_in_r24 : ∀ w ∈ wsL_law0_r24, w ∈ lw_tbl := fun w h => (goodIn_r wsL_law0_r24 [295, 6, 296, 297, 312, 314, 8, 315, 316, 806, 807, 808, 809, 810, 811] (by decide +kernel) (by decide +kernel) w h).1
theorem z_in_app {a b c : List Cond} (h1 : ∀ w ∈ a, w ∈ c) (h2 : ∀ w ∈ b, w ∈ c) : ∀ w ∈ a ++ b, w ∈ c := fun w h => (List.mem_append.mp h).elim (h1 w) (h2 w)
set_option maxRecDepth 20000 in
theorem z_in_x0 : ∀ w ∈ wsX00, w ∈ lw_tbl := by decide +kernel
set_option maxRecDepth 20000 in
theorem z_in_x1 : ∀ w ∈ wsX10, w ∈ lw_tbl := by decide +kernel
set_option maxRecDepth 20000 in
theorem z_in_x2 : ∀ w ∈ wsX20, w ∈ lw_tbl := by decide +kernel
set_option maxRecDepth 20000 in
theorem z_in_x3 : ∀ w ∈ wsX30, w ∈ lw_tbl := by decide +kernel
set_option maxRecDepth 20000 in
theorem z_in_x4 : ∀ w ∈ wsX40, w ∈ lw_tbl := by decide +kernel
theorem wsL_law_in0 : ∀ w ∈ wsL_law0, w ∈ lw_tbl := z_in_app (z_in_app (z_in_app (z_in_app (z_in_app (z_in_app (z_in_app z_in_r1 (z_in_app z_in_r2 (z_in_app z_in_r3 (z_in_app z_in_r4 (z_in_app z_in_r5 (z_in_app z_in_r6 (z_in_app z_in_r7 (z_in_app z_in_r8 (z_in_app z_in_r9 (z_in_app z_in_r10 (z_in_app z_in_r11 (z_in_app z_in_r12 (z_in_app z_in_r13 (z_in_app z_in_r14 (z_in_app z_in_r15 (z_in_app z_in_r16 (z_in_app z_in_r17 (z_in_app z_in_r18 (z_in_app z_in_r19 (z_in_app z_in_r20 (z_in_app z_in_r21 (z_in_app z_in_r22 (z_in_app z_in_r23 (z_in_r24)))))))))))))))))))))))) z_in_x3) z_in_x4) z_in_x1) z_in_x2) z_in_x0) (fun _ h => absurd h List.not_mem_nil)
theorem wsL_law_x0 : ∀ w ∈ (vx_atS RX3 55 "java/lang/IndexOutOfBoundsException" ["java/lang/RuntimeException", "java/lang/Exception"]).filter goodWord, w ∈ lw_tbl := by decide +kernel
theorem wsL_law_x1 : ∀ w ∈ (vx_atS RX3 66 "java/lang/IllegalArgumentException" ["java/lang/RuntimeException", "java/lang/Exception"]).filter goodWord, w ∈ lw_tbl := by decide +kernel
theorem wsL_law_x2 : ∀ w ∈ (vx_atS RX3 83 "java/lang/IllegalStateException" ["java/lang/RuntimeException", "java/lang/Exception"]).filter goodWord, w ∈ lw_tbl := by decide +kernel
theorem wsL_law_in : ∀ w ∈ wsL_law, w ∈ lw_tbl := fun w h => (List.mem_append.mp h).elim (fun h => (List.mem_append.mp h).elim (fun h => (List.mem_append.mp h).elim (fun h => wsL_law_in0 w h) (fun h => wsL_law_x0 w h)) (fun h => wsL_law_x1 w h)) (fun h => wsL_law_x2 w h)
theorem inlX0 : ∀ w ∈ wsX00, w ∈ wsL_law := fun _ h => List.mem_append_left _ (List.mem_append_left _ (List.mem_append_left _ (List.mem_append_left _ (List.mem_append_right _ h))))
theorem inX0 : ∀ w ∈ wsX00, w ∈ lw_tbl := fun w h => wsL_law_in w (inlX0 w h)
theorem inlX1 : ∀ w ∈ wsX10, w ∈ wsL_law := fun _ h => List.mem_append_left _ (List.mem_append_left _ (List.mem_append_left _ (List.mem_append_left _ (List.mem_append_left _ (List.mem_append_left _ (List.mem_append_right _ h))))))
theorem inX1 : ∀ w ∈ wsX10, w ∈ lw_tbl := fun w h => wsL_law_in w (inlX1 w h)
theorem inlX2 : ∀ w ∈ wsX20, w ∈ wsL_law := fun _ h => List.mem_append_left _ (List.mem_append_left _ (List.mem_append_left _ (List.mem_append_left _ (List.mem_append_left _ (List.mem_append_right _ h)))))
theorem inX2 : ∀ w ∈ wsX20, w ∈ lw_tbl := fun w h => wsL_law_in w (inlX2 w h)
theorem inlX3 : ∀ w ∈ wsX30, w ∈ wsL_law := fun _ h => List.mem_append_left _ (List.mem_append_left _ (List.mem_append_left _ (List.mem_append_left _ (List.mem_append_left _ (List.mem_append_left _ (List.mem_append_left _ (List.mem_append_left _ (List.mem_append_right _ h))))))))
theorem inX3 : ∀ w ∈ wsX30, w ∈ lw_tbl := fun w h => wsL_law_in w (inlX3 w h)
theorem inlX4 : ∀ w ∈ wsX40, w ∈ wsL_law := fun _ h => List.mem_append_left _ (List.mem_append_left _ (List.mem_append_left _ (List.mem_append_left _ (List.mem_append_left _ (List.mem_append_left _ (List.mem_append_left _ (List.mem_append_right _ h)))))))
theorem inX4 : ∀ w ∈ wsX40, w ∈ lw_tbl := fun w h => wsL_law_in w (inlX4 w h)
theorem inJx8e188 : ∀ w ∈ wsJx8e1880, w ∈ lw_tbl := by decide +kernel
theorem inJ9 : ∀ w ∈ wsJ90, w ∈ lw_tbl := by decide +kernel
theorem inJ0 : ∀ w ∈ wsJ00, w ∈ lw_tbl := by decide +kernel
theorem inJ10 : ∀ w ∈ wsJ100, w ∈ lw_tbl := by decide +kernel
end
section
theorem dX0_init_0 : decode cX0_init 0 = .ok (.aload_n 0, 1) := by decide +kernel
theorem dX0_init_1 : decode cX0_init 1 = .ok (.invokespecial 1, 3) := by decide +kernel
theorem dX0_init_4 : decode cX0_init 4 = .ok (.return_, 1) := by decide +kernel
theorem dX0_trim_0 : decode cX0_trim 0 = .ok (.aload_n 0, 1) := by decide +kernel
theorem dX0_trim_1 : decode cX0_trim 1 = .ok (.getfield 7, 3) := by decide +kernel
theorem dX0_trim_4 : decode cX0_trim 4 = .ok (.aload_n 0, 1) := by decide +kernel
theorem dX0_trim_5 : decode cX0_trim 5 = .ok (.getfield 13, 3) := by decide +kernel
theorem dX0_trim_8 : decode cX0_trim 8 = .ok (.isub, 1) := by decide +kernel
theorem dX0_trim_9 : decode cX0_trim 9 = .ok (.ireturn, 1) := by decide +kernel
set_option maxRecDepth 20000 in
theorem ggX0_depth_X3_depthOf : GoodIn wsX0_depth wsX3_depthOf := goodIn_r _ [5, 6, 7, 8, 9] (by decide +kernel) (by decide +kernel)
set_option maxRecDepth 20000 in
theorem gX0_depth_X3_depthOf_n16 : GoodIn wsX0_depth (wsX3_depthOf) := ggX0_depth_X3_depthOf
theorem dX0_depth_0 : decode cX0_depth 0 = .ok (.aload_n 0, 1) := by decide +kernel
theorem dX0_depth_1 : decode cX0_depth 1 = .ok (.getfield 7, 3) := by decide +kernel
theorem dX0_depth_4 : decode cX0_depth 4 = .ok (.aload_n 0, 1) := by decide +kernel
theorem dX0_depth_5 : decode cX0_depth 5 = .ok (.getfield 13, 3) := by decide +kernel
theorem dX0_depth_8 : decode cX0_depth 8 = .ok (.invokestatic 16, 3) := by decide +kernel
theorem dX0_depth_11 : decode cX0_depth 11 = .ok (.ireturn, 1) := by decide +kernel
set_option maxRecDepth 20000 in
theorem ggX0_canSail_X0_depth : GoodIn wsX0_canSail wsX0_depth := goodIn_r _ [5, 6, 7, 8, 9, 10, 11, 12, 13, 14, 21, 22, 23] (by decide +kernel) (by decide +kernel)
set_option maxRecDepth 20000 in
theorem gX0_canSail_X0_depth : GoodIn wsX0_canSail (wsV RX0 22 RX0 yX0_depth wsX0_depth) := goodIn_app (goodIn_of _ (by decide +kernel)) ggX0_canSail_X0_depth
set_option maxRecDepth 20000 in
theorem ggX0_canSail_X0_trim : GoodIn wsX0_canSail wsX0_trim := goodIn_r _ [18, 6, 7, 21, 22, 23] (by decide +kernel) (by decide +kernel)
set_option maxRecDepth 20000 in
theorem gX0_canSail_X0_trim : GoodIn wsX0_canSail (wsV RX0 26 RX0 yX0_trim wsX0_trim) := goodIn_app (goodIn_of _ (by decide +kernel)) ggX0_canSail_X0_trim
set_option maxRecDepth 20000 in
theorem ggX0_canSail_X3_isWithin : GoodIn wsX0_canSail wsX3_isWithin := goodIn_r _ [20] (by decide +kernel) (by decide +kernel)
set_option maxRecDepth 20000 in
theorem gX0_canSail_X3_isWithin_n29 : GoodIn wsX0_canSail (wsX3_isWithin) := ggX0_canSail_X3_isWithin
theorem dX0_canSail_0 : decode cX0_canSail 0 = .ok (.aload_n 0, 1) := by decide +kernel
theorem dX0_canSail_1 : decode cX0_canSail 1 = .ok (.invokevirtual 22, 3) := by decide +kernel
theorem dX0_canSail_4 : decode cX0_canSail 4 = .ok (.bipush 20, 2) := by decide +kernel
theorem dX0_canSail_6 : decode cX0_canSail 6 = .ok (.if_icmp .gt 21, 3) := by decide +kernel
theorem dX0_canSail_9 : decode cX0_canSail 9 = .ok (.aload_n 0, 1) := by decide +kernel
theorem dX0_canSail_10 : decode cX0_canSail 10 = .ok (.invokevirtual 26, 3) := by decide +kernel
theorem dX0_canSail_13 : decode cX0_canSail 13 = .ok (.bipush (-100), 2) := by decide +kernel
theorem dX0_canSail_15 : decode cX0_canSail 15 = .ok (.bipush 100, 2) := by decide +kernel
theorem dX0_canSail_17 : decode cX0_canSail 17 = .ok (.invokestatic 29, 3) := by decide +kernel
theorem dX0_canSail_20 : decode cX0_canSail 20 = .ok (.ifCond .eq 7, 3) := by decide +kernel
theorem dX0_canSail_23 : decode cX0_canSail 23 = .ok (.iconst 1, 1) := by decide +kernel
theorem dX0_canSail_24 : decode cX0_canSail 24 = .ok (.goto 4, 3) := by decide +kernel
theorem dX0_canSail_27 : decode cX0_canSail 27 = .ok (.iconst 0, 1) := by decide +kernel
theorem dX0_canSail_28 : decode cX0_canSail 28 = .ok (.ireturn, 1) := by decide +kernel
theorem dX0_room_0 : decode cX0_room 0 = .ok (.aload_n 0, 1) := by decide +kernel
theorem dX0_room_1 : decode cX0_room 1 = .ok (.getfield 33, 3) := by decide +kernel
theorem dX0_room_4 : decode cX0_room 4 = .ok (.aload_n 0, 1) := by decide +kernel
theorem dX0_room_5 : decode cX0_room 5 = .ok (.getfield 7, 3) := by decide +kernel
theorem dX0_room_8 : decode cX0_room 8 = .ok (.isub, 1) := by decide +kernel
theorem dX0_room_9 : decode cX0_room 9 = .ok (.aload_n 0, 1) := by decide +kernel
theorem dX0_room_10 : decode cX0_room 10 = .ok (.getfield 13, 3) := by decide +kernel
theorem dX0_room_13 : decode cX0_room 13 = .ok (.isub, 1) := by decide +kernel
theorem dX0_room_14 : decode cX0_room 14 = .ok (.ireturn, 1) := by decide +kernel
theorem dX0_worth_0 : decode cX0_worth 0 = .ok (.aload_n 0, 1) := by decide +kernel
theorem dX0_worth_1 : decode cX0_worth 1 = .ok (.getfield 7, 3) := by decide +kernel
theorem dX0_worth_4 : decode cX0_worth 4 = .ok (.aload_n 0, 1) := by decide +kernel
theorem dX0_worth_5 : decode cX0_worth 5 = .ok (.getfield 13, 3) := by decide +kernel
theorem dX0_worth_8 : decode cX0_worth 8 = .ok (.iadd, 1) := by decide +kernel
theorem dX0_worth_9 : decode cX0_worth 9 = .ok (.bipush 10, 2) := by decide +kernel
theorem dX0_worth_11 : decode cX0_worth 11 = .ok (.idiv, 1) := by decide +kernel
theorem dX0_worth_12 : decode cX0_worth 12 = .ok (.iconst 3, 1) := by decide +kernel
theorem dX0_worth_13 : decode cX0_worth 13 = .ok (.imul, 1) := by decide +kernel
theorem dX0_worth_14 : decode cX0_worth 14 = .ok (.ireturn, 1) := by decide +kernel
theorem dX1_init_0 : decode cX1_init 0 = .ok (.aload_n 0, 1) := by decide +kernel
theorem dX1_init_1 : decode cX1_init 1 = .ok (.invokespecial 3, 3) := by decide +kernel
theorem dX1_init_4 : decode cX1_init 4 = .ok (.aload_n 0, 1) := by decide +kernel
theorem dX1_init_5 : decode cX1_init 5 = .ok (.iconst 3, 1) := by decide +kernel
theorem dX1_init_6 : decode cX1_init 6 = .ok (.newarray .int, 2) := by decide +kernel
theorem dX1_init_8 : decode cX1_init 8 = .ok (.putfield 9, 3) := by decide +kernel
theorem dX1_init_11 : decode cX1_init 11 = .ok (.return_, 1) := by decide +kernel
theorem dX1_allSacks_0 : decode cX1_allSacks 0 = .ok (.aload_n 0, 1) := by decide +kernel
theorem dX1_allSacks_1 : decode cX1_allSacks 1 = .ok (.getfield 9, 3) := by decide +kernel
theorem dX1_allSacks_4 : decode cX1_allSacks 4 = .ok (.iconst 0, 1) := by decide +kernel
theorem dX1_allSacks_5 : decode cX1_allSacks 5 = .ok (.iaload, 1) := by decide +kernel
theorem dX1_allSacks_6 : decode cX1_allSacks 6 = .ok (.aload_n 0, 1) := by decide +kernel
theorem dX1_allSacks_7 : decode cX1_allSacks 7 = .ok (.getfield 9, 3) := by decide +kernel
theorem dX1_allSacks_10 : decode cX1_allSacks 10 = .ok (.iconst 1, 1) := by decide +kernel
theorem dX1_allSacks_11 : decode cX1_allSacks 11 = .ok (.iaload, 1) := by decide +kernel
theorem dX1_allSacks_12 : decode cX1_allSacks 12 = .ok (.iadd, 1) := by decide +kernel
theorem dX1_allSacks_13 : decode cX1_allSacks 13 = .ok (.aload_n 0, 1) := by decide +kernel
theorem dX1_allSacks_14 : decode cX1_allSacks 14 = .ok (.getfield 9, 3) := by decide +kernel
theorem dX1_allSacks_17 : decode cX1_allSacks 17 = .ok (.iconst 2, 1) := by decide +kernel
theorem dX1_allSacks_18 : decode cX1_allSacks 18 = .ok (.iaload, 1) := by decide +kernel
theorem dX1_allSacks_19 : decode cX1_allSacks 19 = .ok (.iadd, 1) := by decide +kernel
theorem dX1_allSacks_20 : decode cX1_allSacks 20 = .ok (.ireturn, 1) := by decide +kernel
theorem dX1_become_0 : decode cX1_become 0 = .ok (.aload_n 1, 1) := by decide +kernel
theorem dX1_become_1 : decode cX1_become 1 = .ok (.getfield 9, 3) := by decide +kernel
theorem dX1_become_4 : decode cX1_become 4 = .ok (.iconst 0, 1) := by decide +kernel
theorem dX1_become_5 : decode cX1_become 5 = .ok (.aload_n 0, 1) := by decide +kernel
theorem dX1_become_6 : decode cX1_become 6 = .ok (.getfield 9, 3) := by decide +kernel
theorem dX1_become_9 : decode cX1_become 9 = .ok (.iconst 0, 1) := by decide +kernel
theorem dX1_become_10 : decode cX1_become 10 = .ok (.iconst 3, 1) := by decide +kernel
theorem dX1_become_11 : decode cX1_become 11 = .ok (.invokestatic 15, 3) := by decide +kernel
theorem dX1_become_14 : decode cX1_become 14 = .ok (.aload_n 0, 1) := by decide +kernel
theorem dX1_become_15 : decode cX1_become 15 = .ok (.aload_n 1, 1) := by decide +kernel
theorem dX1_become_16 : decode cX1_become 16 = .ok (.getfield 21, 3) := by decide +kernel
theorem dX1_become_19 : decode cX1_become 19 = .ok (.putfield 21, 3) := by decide +kernel
theorem dX1_become_22 : decode cX1_become 22 = .ok (.return_, 1) := by decide +kernel
theorem dX2_init_0 : decode cX2_init 0 = .ok (.aload_n 0, 1) := by decide +kernel
theorem dX2_init_1 : decode cX2_init 1 = .ok (.invokespecial 3, 3) := by decide +kernel
theorem dX2_init_4 : decode cX2_init 4 = .ok (.aload_n 0, 1) := by decide +kernel
theorem dX2_init_5 : decode cX2_init 5 = .ok (.bipush 8, 2) := by decide +kernel
theorem dX2_init_7 : decode cX2_init 7 = .ok (.newarray .int, 2) := by decide +kernel
theorem dX2_init_9 : decode cX2_init 9 = .ok (.putfield 9, 3) := by decide +kernel
theorem dX2_init_12 : decode cX2_init 12 = .ok (.aload_n 0, 1) := by decide +kernel
theorem dX2_init_13 : decode cX2_init 13 = .ok (.bipush 20, 2) := by decide +kernel
theorem dX2_init_15 : decode cX2_init 15 = .ok (.putfield 15, 3) := by decide +kernel
theorem dX2_init_18 : decode cX2_init 18 = .ok (.aload_n 0, 1) := by decide +kernel
theorem dX2_init_19 : decode cX2_init 19 = .ok (.iconst 0, 1) := by decide +kernel
theorem dX2_init_20 : decode cX2_init 20 = .ok (.putfield 19, 3) := by decide +kernel
theorem dX2_init_23 : decode cX2_init 23 = .ok (.return_, 1) := by decide +kernel
theorem dX2_isFull_0 : decode cX2_isFull 0 = .ok (.aload_n 0, 1) := by decide +kernel
theorem dX2_isFull_1 : decode cX2_isFull 1 = .ok (.getfield 22, 3) := by decide +kernel
theorem dX2_isFull_4 : decode cX2_isFull 4 = .ok (.aload_n 0, 1) := by decide +kernel
theorem dX2_isFull_5 : decode cX2_isFull 5 = .ok (.getfield 25, 3) := by decide +kernel
theorem dX2_isFull_8 : decode cX2_isFull 8 = .ok (.if_icmp .ge 12, 3) := by decide +kernel
theorem dX2_isFull_11 : decode cX2_isFull 11 = .ok (.aload_n 0, 1) := by decide +kernel
theorem dX2_isFull_12 : decode cX2_isFull 12 = .ok (.getfield 22, 3) := by decide +kernel
theorem dX2_isFull_15 : decode cX2_isFull 15 = .ok (.bipush 8, 2) := by decide +kernel
theorem dX2_isFull_17 : decode cX2_isFull 17 = .ok (.if_icmp .lt 7, 3) := by decide +kernel
theorem dX2_isFull_20 : decode cX2_isFull 20 = .ok (.iconst 1, 1) := by decide +kernel
theorem dX2_isFull_21 : decode cX2_isFull 21 = .ok (.goto 4, 3) := by decide +kernel
theorem dX2_isFull_24 : decode cX2_isFull 24 = .ok (.iconst 0, 1) := by decide +kernel
theorem dX2_isFull_25 : decode cX2_isFull 25 = .ok (.ireturn, 1) := by decide +kernel
set_option maxRecDepth 20000 in
theorem ggX2_load_X2_isFull : GoodIn wsX2_load wsX2_isFull := goodIn_r _ [7, 2, 8, 9, 10, 11, 12, 13] (by decide +kernel) (by decide +kernel)
set_option maxRecDepth 20000 in
theorem gX2_load_X2_isFull : GoodIn wsX2_load (wsV RX2 28 RX2 yX2_isFull wsX2_isFull) := goodIn_app (goodIn_of _ (by decide +kernel)) ggX2_load_X2_isFull
theorem dX2_load_0 : decode cX2_load 0 = .ok (.aload_n 0, 1) := by decide +kernel
theorem dX2_load_1 : decode cX2_load 1 = .ok (.invokevirtual 28, 3) := by decide +kernel
theorem dX2_load_4 : decode cX2_load 4 = .ok (.ifCond .ne 23, 3) := by decide +kernel
theorem dX2_load_7 : decode cX2_load 7 = .ok (.aload_n 0, 1) := by decide +kernel
theorem dX2_load_8 : decode cX2_load 8 = .ok (.getfield 9, 3) := by decide +kernel
theorem dX2_load_11 : decode cX2_load 11 = .ok (.aload_n 0, 1) := by decide +kernel
theorem dX2_load_12 : decode cX2_load 12 = .ok (.getfield 22, 3) := by decide +kernel
theorem dX2_load_15 : decode cX2_load 15 = .ok (.iload_n 1, 1) := by decide +kernel
theorem dX2_load_16 : decode cX2_load 16 = .ok (.iastore, 1) := by decide +kernel
theorem dX2_load_17 : decode cX2_load 17 = .ok (.aload_n 0, 1) := by decide +kernel
theorem dX2_load_18 : decode cX2_load 18 = .ok (.dup, 1) := by decide +kernel
theorem dX2_load_19 : decode cX2_load 19 = .ok (.getfield 22, 3) := by decide +kernel
theorem dX2_load_22 : decode cX2_load 22 = .ok (.iconst 1, 1) := by decide +kernel
theorem dX2_load_23 : decode cX2_load 23 = .ok (.iadd, 1) := by decide +kernel
theorem dX2_load_24 : decode cX2_load 24 = .ok (.putfield 22, 3) := by decide +kernel
theorem dX2_load_27 : decode cX2_load 27 = .ok (.return_, 1) := by decide +kernel
theorem dX2_weightAboard_0 : decode cX2_weightAboard 0 = .ok (.iconst 0, 1) := by decide +kernel
theorem dX2_weightAboard_1 : decode cX2_weightAboard 1 = .ok (.istore_n 1, 1) := by decide +kernel
theorem dX2_weightAboard_2 : decode cX2_weightAboard 2 = .ok (.iconst 0, 1) := by decide +kernel
theorem dX2_weightAboard_3 : decode cX2_weightAboard 3 = .ok (.istore_n 2, 1) := by decide +kernel
theorem dX2_weightAboard_4 : decode cX2_weightAboard 4 = .ok (.iload_n 2, 1) := by decide +kernel
theorem dX2_weightAboard_5 : decode cX2_weightAboard 5 = .ok (.aload_n 0, 1) := by decide +kernel
theorem dX2_weightAboard_6 : decode cX2_weightAboard 6 = .ok (.getfield 22, 3) := by decide +kernel
theorem dX2_weightAboard_9 : decode cX2_weightAboard 9 = .ok (.if_icmp .ge 18, 3) := by decide +kernel
theorem dX2_weightAboard_12 : decode cX2_weightAboard 12 = .ok (.iload_n 1, 1) := by decide +kernel
theorem dX2_weightAboard_13 : decode cX2_weightAboard 13 = .ok (.aload_n 0, 1) := by decide +kernel
theorem dX2_weightAboard_14 : decode cX2_weightAboard 14 = .ok (.getfield 9, 3) := by decide +kernel
theorem dX2_weightAboard_17 : decode cX2_weightAboard 17 = .ok (.iload_n 2, 1) := by decide +kernel
theorem dX2_weightAboard_18 : decode cX2_weightAboard 18 = .ok (.iaload, 1) := by decide +kernel
theorem dX2_weightAboard_19 : decode cX2_weightAboard 19 = .ok (.iadd, 1) := by decide +kernel
theorem dX2_weightAboard_20 : decode cX2_weightAboard 20 = .ok (.istore_n 1, 1) := by decide +kernel
theorem dX2_weightAboard_21 : decode cX2_weightAboard 21 = .ok (.iinc 2 1, 3) := by decide +kernel
theorem dX2_weightAboard_24 : decode cX2_weightAboard 24 = .ok (.goto (-20), 3) := by decide +kernel
theorem dX2_weightAboard_27 : decode cX2_weightAboard 27 = .ok (.iload_n 1, 1) := by decide +kernel
theorem dX2_weightAboard_28 : decode cX2_weightAboard 28 = .ok (.ireturn, 1) := by decide +kernel
set_option maxRecDepth 20000 in
theorem ggX2_lastKind_X3_kindOf : GoodIn wsX2_lastKind wsX3_kindOf := goodIn_r _ [5] (by decide +kernel) (by decide +kernel)
set_option maxRecDepth 20000 in
theorem gX2_lastKind_X3_kindOf_n32 : GoodIn wsX2_lastKind (wsX3_kindOf) := ggX2_lastKind_X3_kindOf
theorem dX2_lastKind_0 : decode cX2_lastKind 0 = .ok (.aload_n 0, 1) := by decide +kernel
theorem dX2_lastKind_1 : decode cX2_lastKind 1 = .ok (.getfield 22, 3) := by decide +kernel
theorem dX2_lastKind_4 : decode cX2_lastKind 4 = .ok (.ifCond .le 20, 3) := by decide +kernel
theorem dX2_lastKind_7 : decode cX2_lastKind 7 = .ok (.aload_n 0, 1) := by decide +kernel
theorem dX2_lastKind_8 : decode cX2_lastKind 8 = .ok (.getfield 9, 3) := by decide +kernel
theorem dX2_lastKind_11 : decode cX2_lastKind 11 = .ok (.aload_n 0, 1) := by decide +kernel
theorem dX2_lastKind_12 : decode cX2_lastKind 12 = .ok (.getfield 22, 3) := by decide +kernel
theorem dX2_lastKind_15 : decode cX2_lastKind 15 = .ok (.iconst 1, 1) := by decide +kernel
theorem dX2_lastKind_16 : decode cX2_lastKind 16 = .ok (.isub, 1) := by decide +kernel
theorem dX2_lastKind_17 : decode cX2_lastKind 17 = .ok (.iaload, 1) := by decide +kernel
theorem dX2_lastKind_18 : decode cX2_lastKind 18 = .ok (.invokestatic 32, 3) := by decide +kernel
theorem dX2_lastKind_21 : decode cX2_lastKind 21 = .ok (.goto 4, 3) := by decide +kernel
theorem dX2_lastKind_24 : decode cX2_lastKind 24 = .ok (.iconst (-1), 1) := by decide +kernel
theorem dX2_lastKind_25 : decode cX2_lastKind 25 = .ok (.ireturn, 1) := by decide +kernel
theorem dX2_become_0 : decode cX2_become 0 = .ok (.aload_n 0, 1) := by decide +kernel
theorem dX2_become_1 : decode cX2_become 1 = .ok (.aload_n 1, 1) := by decide +kernel
theorem dX2_become_2 : decode cX2_become 2 = .ok (.getfield 25, 3) := by decide +kernel
theorem dX2_become_5 : decode cX2_become 5 = .ok (.putfield 25, 3) := by decide +kernel
theorem dX2_become_8 : decode cX2_become 8 = .ok (.aload_n 1, 1) := by decide +kernel
theorem dX2_become_9 : decode cX2_become 9 = .ok (.getfield 9, 3) := by decide +kernel
theorem dX2_become_12 : decode cX2_become 12 = .ok (.iconst 0, 1) := by decide +kernel
theorem dX2_become_13 : decode cX2_become 13 = .ok (.aload_n 0, 1) := by decide +kernel
theorem dX2_become_14 : decode cX2_become 14 = .ok (.getfield 9, 3) := by decide +kernel
theorem dX2_become_17 : decode cX2_become 17 = .ok (.iconst 0, 1) := by decide +kernel
theorem dX2_become_18 : decode cX2_become 18 = .ok (.bipush 8, 2) := by decide +kernel
theorem dX2_become_20 : decode cX2_become 20 = .ok (.invokestatic 36, 3) := by decide +kernel
theorem dX2_become_23 : decode cX2_become 23 = .ok (.aload_n 0, 1) := by decide +kernel
theorem dX2_become_24 : decode cX2_become 24 = .ok (.aload_n 1, 1) := by decide +kernel
theorem dX2_become_25 : decode cX2_become 25 = .ok (.getfield 22, 3) := by decide +kernel
theorem dX2_become_28 : decode cX2_become 28 = .ok (.putfield 22, 3) := by decide +kernel
theorem dX2_become_31 : decode cX2_become 31 = .ok (.aload_n 0, 1) := by decide +kernel
theorem dX2_become_32 : decode cX2_become 32 = .ok (.aload_n 1, 1) := by decide +kernel
theorem dX2_become_33 : decode cX2_become 33 = .ok (.getfield 15, 3) := by decide +kernel
theorem dX2_become_36 : decode cX2_become 36 = .ok (.putfield 15, 3) := by decide +kernel
theorem dX2_become_39 : decode cX2_become 39 = .ok (.aload_n 0, 1) := by decide +kernel
theorem dX2_become_40 : decode cX2_become 40 = .ok (.aload_n 1, 1) := by decide +kernel
theorem dX2_become_41 : decode cX2_become 41 = .ok (.getfield 19, 3) := by decide +kernel
theorem dX2_become_44 : decode cX2_become 44 = .ok (.putfield 19, 3) := by decide +kernel
theorem dX2_become_47 : decode cX2_become 47 = .ok (.return_, 1) := by decide +kernel
set_option maxRecDepth 20000 in
theorem ggX2_travel_X2_comeDown : GoodIn wsX2_travel wsX2_comeDown := goodIn_r _ [6, 7, 8, 9, 10, 11, 12, 1, 13, 14, 15, 5, 16, 17, 18, 19, 20, 28, 29, 30, 31, 32, 33, 34] (by decide +kernel) (by decide +kernel)
set_option maxRecDepth 20000 in
theorem gX2_travel_X2_comeDown : GoodIn wsX2_travel (wsV RX2 42 RX2 yX2_comeDown wsX2_comeDown) := goodIn_app (goodIn_of _ (by decide +kernel)) ggX2_travel_X2_comeDown
set_option maxRecDepth 20000 in
theorem ggX2_travel_X2_comeUp : GoodIn wsX2_travel wsX2_comeUp := goodIn_r _ [24, 8, 25, 26, 11, 27, 1, 28, 29, 30, 31, 32] (by decide +kernel) (by decide +kernel)
set_option maxRecDepth 20000 in
theorem gX2_travel_X2_comeUp : GoodIn wsX2_travel (wsV RX2 46 RX2 yX2_comeUp wsX2_comeUp) := goodIn_app (goodIn_of _ (by decide +kernel)) ggX2_travel_X2_comeUp
theorem dX2_travel_0 : decode cX2_travel 0 = .ok (.aload_n 0, 1) := by decide +kernel
theorem dX2_travel_1 : decode cX2_travel 1 = .ok (.getfield 19, 3) := by decide +kernel
theorem dX2_travel_4 : decode cX2_travel 4 = .ok (.iconst 1, 1) := by decide +kernel
theorem dX2_travel_5 : decode cX2_travel 5 = .ok (.if_icmp .ne 12, 3) := by decide +kernel
theorem dX2_travel_8 : decode cX2_travel 8 = .ok (.aload_n 0, 1) := by decide +kernel
theorem dX2_travel_9 : decode cX2_travel 9 = .ok (.iload_n 1, 1) := by decide +kernel
theorem dX2_travel_10 : decode cX2_travel 10 = .ok (.aload_n 2, 1) := by decide +kernel
theorem dX2_travel_11 : decode cX2_travel 11 = .ok (.invokevirtual 42, 3) := by decide +kernel
theorem dX2_travel_14 : decode cX2_travel 14 = .ok (.goto 15, 3) := by decide +kernel
theorem dX2_travel_17 : decode cX2_travel 17 = .ok (.aload_n 0, 1) := by decide +kernel
theorem dX2_travel_18 : decode cX2_travel 18 = .ok (.getfield 19, 3) := by decide +kernel
theorem dX2_travel_21 : decode cX2_travel 21 = .ok (.iconst 2, 1) := by decide +kernel
theorem dX2_travel_22 : decode cX2_travel 22 = .ok (.if_icmp .ne 7, 3) := by decide +kernel
theorem dX2_travel_25 : decode cX2_travel 25 = .ok (.aload_n 0, 1) := by decide +kernel
theorem dX2_travel_26 : decode cX2_travel 26 = .ok (.invokevirtual 46, 3) := by decide +kernel
theorem dX2_travel_29 : decode cX2_travel 29 = .ok (.return_, 1) := by decide +kernel
set_option maxRecDepth 20000 in
theorem ggX2_comeDown_X2_unload : GoodIn wsX2_comeDown wsX2_unload := goodIn_r _ [12, 1, 13, 14, 15, 16, 17, 18, 19, 20, 21, 22, 23] (by decide +kernel) (by decide +kernel)
set_option maxRecDepth 20000 in
theorem gX2_comeDown_X2_unload : GoodIn wsX2_comeDown (wsV RX2 60 RX2 yX2_unload wsX2_unload) := goodIn_app (goodIn_of _ (by decide +kernel)) ggX2_comeDown_X2_unload
theorem dX2_comeDown_0 : decode cX2_comeDown 0 = .ok (.aload_n 0, 1) := by decide +kernel
theorem dX2_comeDown_1 : decode cX2_comeDown 1 = .ok (.getfield 22, 3) := by decide +kernel
theorem dX2_comeDown_4 : decode cX2_comeDown 4 = .ok (.ifCond .le 35, 3) := by decide +kernel
theorem dX2_comeDown_7 : decode cX2_comeDown 7 = .ok (.iload_n 1, 1) := by decide +kernel
theorem dX2_comeDown_8 : decode cX2_comeDown 8 = .ok (.iconst 4, 1) := by decide +kernel
theorem dX2_comeDown_9 : decode cX2_comeDown 9 = .ok (.iconst 2, 1) := by decide +kernel
theorem dX2_comeDown_10 : decode cX2_comeDown 10 = .ok (.aload_n 0, 1) := by decide +kernel
theorem dX2_comeDown_11 : decode cX2_comeDown 11 = .ok (.getfield 22, 3) := by decide +kernel
theorem dX2_comeDown_14 : decode cX2_comeDown 14 = .ok (.imul, 1) := by decide +kernel
theorem dX2_comeDown_15 : decode cX2_comeDown 15 = .ok (.iadd, 1) := by decide +kernel
theorem dX2_comeDown_16 : decode cX2_comeDown 16 = .ok (.if_icmp .le 23, 3) := by decide +kernel
theorem dX2_comeDown_19 : decode cX2_comeDown 19 = .ok (.aload_n 0, 1) := by decide +kernel
theorem dX2_comeDown_20 : decode cX2_comeDown 20 = .ok (.dup, 1) := by decide +kernel
theorem dX2_comeDown_21 : decode cX2_comeDown 21 = .ok (.getfield 22, 3) := by decide +kernel
theorem dX2_comeDown_24 : decode cX2_comeDown 24 = .ok (.iconst 1, 1) := by decide +kernel
theorem dX2_comeDown_25 : decode cX2_comeDown 25 = .ok (.isub, 1) := by decide +kernel
theorem dX2_comeDown_26 : decode cX2_comeDown 26 = .ok (.putfield 22, 3) := by decide +kernel
theorem dX2_comeDown_29 : decode cX2_comeDown 29 = .ok (.aload_n 2, 1) := by decide +kernel
theorem dX2_comeDown_30 : decode cX2_comeDown 30 = .ok (.dup, 1) := by decide +kernel
theorem dX2_comeDown_31 : decode cX2_comeDown 31 = .ok (.getfield 49, 3) := by decide +kernel
theorem dX2_comeDown_34 : decode cX2_comeDown 34 = .ok (.iconst 1, 1) := by decide +kernel
theorem dX2_comeDown_35 : decode cX2_comeDown 35 = .ok (.iadd, 1) := by decide +kernel
theorem dX2_comeDown_36 : decode cX2_comeDown 36 = .ok (.putfield 49, 3) := by decide +kernel
theorem dX2_comeDown_39 : decode cX2_comeDown 39 = .ok (.aload_n 0, 1) := by decide +kernel
theorem dX2_comeDown_40 : decode cX2_comeDown 40 = .ok (.iconst 0, 1) := by decide +kernel
theorem dX2_comeDown_41 : decode cX2_comeDown 41 = .ok (.aload_n 0, 1) := by decide +kernel
theorem dX2_comeDown_42 : decode cX2_comeDown 42 = .ok (.getfield 15, 3) := by decide +kernel
theorem dX2_comeDown_45 : decode cX2_comeDown 45 = .ok (.iconst 4, 1) := by decide +kernel
theorem dX2_comeDown_46 : decode cX2_comeDown 46 = .ok (.aload_n 0, 1) := by decide +kernel
theorem dX2_comeDown_47 : decode cX2_comeDown 47 = .ok (.getfield 22, 3) := by decide +kernel
theorem dX2_comeDown_50 : decode cX2_comeDown 50 = .ok (.iconst 3, 1) := by decide +kernel
theorem dX2_comeDown_51 : decode cX2_comeDown 51 = .ok (.idiv, 1) := by decide +kernel
theorem dX2_comeDown_52 : decode cX2_comeDown 52 = .ok (.isub, 1) := by decide +kernel
theorem dX2_comeDown_53 : decode cX2_comeDown 53 = .ok (.iload_n 1, 1) := by decide +kernel
theorem dX2_comeDown_54 : decode cX2_comeDown 54 = .ok (.iconst 2, 1) := by decide +kernel
theorem dX2_comeDown_55 : decode cX2_comeDown 55 = .ok (.idiv, 1) := by decide +kernel
theorem dX2_comeDown_56 : decode cX2_comeDown 56 = .ok (.iadd, 1) := by decide +kernel
theorem dX2_comeDown_57 : decode cX2_comeDown 57 = .ok (.isub, 1) := by decide +kernel
theorem dX2_comeDown_58 : decode cX2_comeDown 58 = .ok (.invokestatic 54, 3) := by decide +kernel
theorem dX2_comeDown_61 : decode cX2_comeDown 61 = .ok (.putfield 15, 3) := by decide +kernel
theorem dX2_comeDown_64 : decode cX2_comeDown 64 = .ok (.aload_n 0, 1) := by decide +kernel
theorem dX2_comeDown_65 : decode cX2_comeDown 65 = .ok (.getfield 15, 3) := by decide +kernel
theorem dX2_comeDown_68 : decode cX2_comeDown 68 = .ok (.ifCond .ne 13, 3) := by decide +kernel
theorem dX2_comeDown_71 : decode cX2_comeDown 71 = .ok (.aload_n 0, 1) := by decide +kernel
theorem dX2_comeDown_72 : decode cX2_comeDown 72 = .ok (.aload_n 2, 1) := by decide +kernel
theorem dX2_comeDown_73 : decode cX2_comeDown 73 = .ok (.invokevirtual 60, 3) := by decide +kernel
theorem dX2_comeDown_76 : decode cX2_comeDown 76 = .ok (.aload_n 0, 1) := by decide +kernel
theorem dX2_comeDown_77 : decode cX2_comeDown 77 = .ok (.iconst 2, 1) := by decide +kernel
theorem dX2_comeDown_78 : decode cX2_comeDown 78 = .ok (.putfield 19, 3) := by decide +kernel
theorem dX2_comeDown_81 : decode cX2_comeDown 81 = .ok (.return_, 1) := by decide +kernel
set_option maxRecDepth 20000 in
theorem ggX2_unload_X3_kindOf : GoodIn wsX2_unload wsX3_kindOf := goodIn_r _ [5] (by decide +kernel) (by decide +kernel)
set_option maxRecDepth 20000 in
theorem gX2_unload_X3_kindOf_n32 : GoodIn wsX2_unload (wsX3_kindOf) := ggX2_unload_X3_kindOf
theorem dX2_unload_0 : decode cX2_unload 0 = .ok (.iconst 0, 1) := by decide +kernel
theorem dX2_unload_1 : decode cX2_unload 1 = .ok (.istore_n 2, 1) := by decide +kernel
theorem dX2_unload_2 : decode cX2_unload 2 = .ok (.iload_n 2, 1) := by decide +kernel
theorem dX2_unload_3 : decode cX2_unload 3 = .ok (.aload_n 0, 1) := by decide +kernel
theorem dX2_unload_4 : decode cX2_unload 4 = .ok (.getfield 22, 3) := by decide +kernel
theorem dX2_unload_7 : decode cX2_unload 7 = .ok (.if_icmp .ge 27, 3) := by decide +kernel
theorem dX2_unload_10 : decode cX2_unload 10 = .ok (.aload_n 1, 1) := by decide +kernel
theorem dX2_unload_11 : decode cX2_unload 11 = .ok (.getfield 64, 3) := by decide +kernel
theorem dX2_unload_14 : decode cX2_unload 14 = .ok (.aload_n 0, 1) := by decide +kernel
theorem dX2_unload_15 : decode cX2_unload 15 = .ok (.getfield 9, 3) := by decide +kernel
theorem dX2_unload_18 : decode cX2_unload 18 = .ok (.iload_n 2, 1) := by decide +kernel
theorem dX2_unload_19 : decode cX2_unload 19 = .ok (.iaload, 1) := by decide +kernel
theorem dX2_unload_20 : decode cX2_unload 20 = .ok (.invokestatic 32, 3) := by decide +kernel
theorem dX2_unload_23 : decode cX2_unload 23 = .ok (.dup2, 1) := by decide +kernel
theorem dX2_unload_24 : decode cX2_unload 24 = .ok (.iaload, 1) := by decide +kernel
theorem dX2_unload_25 : decode cX2_unload 25 = .ok (.iconst 1, 1) := by decide +kernel
theorem dX2_unload_26 : decode cX2_unload 26 = .ok (.iadd, 1) := by decide +kernel
theorem dX2_unload_27 : decode cX2_unload 27 = .ok (.iastore, 1) := by decide +kernel
theorem dX2_unload_28 : decode cX2_unload 28 = .ok (.iinc 2 1, 3) := by decide +kernel
theorem dX2_unload_31 : decode cX2_unload 31 = .ok (.goto (-29), 3) := by decide +kernel
theorem dX2_unload_34 : decode cX2_unload 34 = .ok (.aload_n 0, 1) := by decide +kernel
theorem dX2_unload_35 : decode cX2_unload 35 = .ok (.iconst 0, 1) := by decide +kernel
theorem dX2_unload_36 : decode cX2_unload 36 = .ok (.putfield 22, 3) := by decide +kernel
theorem dX2_unload_39 : decode cX2_unload 39 = .ok (.return_, 1) := by decide +kernel
theorem dX2_comeUp_0 : decode cX2_comeUp 0 = .ok (.aload_n 0, 1) := by decide +kernel
theorem dX2_comeUp_1 : decode cX2_comeUp 1 = .ok (.bipush 20, 2) := by decide +kernel
theorem dX2_comeUp_3 : decode cX2_comeUp 3 = .ok (.aload_n 0, 1) := by decide +kernel
theorem dX2_comeUp_4 : decode cX2_comeUp 4 = .ok (.getfield 15, 3) := by decide +kernel
theorem dX2_comeUp_7 : decode cX2_comeUp 7 = .ok (.iconst 5, 1) := by decide +kernel
theorem dX2_comeUp_8 : decode cX2_comeUp 8 = .ok (.iadd, 1) := by decide +kernel
theorem dX2_comeUp_9 : decode cX2_comeUp 9 = .ok (.invokestatic 67, 3) := by decide +kernel
theorem dX2_comeUp_12 : decode cX2_comeUp 12 = .ok (.putfield 15, 3) := by decide +kernel
theorem dX2_comeUp_15 : decode cX2_comeUp 15 = .ok (.aload_n 0, 1) := by decide +kernel
theorem dX2_comeUp_16 : decode cX2_comeUp 16 = .ok (.getfield 15, 3) := by decide +kernel
theorem dX2_comeUp_19 : decode cX2_comeUp 19 = .ok (.bipush 20, 2) := by decide +kernel
theorem dX2_comeUp_21 : decode cX2_comeUp 21 = .ok (.if_icmp .ne 8, 3) := by decide +kernel
theorem dX2_comeUp_24 : decode cX2_comeUp 24 = .ok (.aload_n 0, 1) := by decide +kernel
theorem dX2_comeUp_25 : decode cX2_comeUp 25 = .ok (.iconst 0, 1) := by decide +kernel
theorem dX2_comeUp_26 : decode cX2_comeUp 26 = .ok (.putfield 19, 3) := by decide +kernel
theorem dX2_comeUp_29 : decode cX2_comeUp 29 = .ok (.return_, 1) := by decide +kernel
set_option maxRecDepth 20000 in
theorem ggX3_init_X1_init : GoodIn wsX3_init wsX1_init := goodIn_r _ [23, 24, 2, 3, 4, 25, 47, 48] (by decide +kernel) (by decide +kernel)
set_option maxRecDepth 20000 in
theorem gX3_init_X1_init_n33 : GoodIn wsX3_init (wsX1_init) := ggX3_init_X1_init
set_option maxRecDepth 20000 in
theorem ggX3_init_X2_init : GoodIn wsX3_init wsX2_init := goodIn_r _ [27, 28, 2, 3, 4, 29, 30, 31, 49, 50, 51, 52, 53] (by decide +kernel) (by decide +kernel)
set_option maxRecDepth 20000 in
theorem gX3_init_X2_init_n38 : GoodIn wsX3_init (wsX2_init) := ggX3_init_X2_init
set_option maxRecDepth 20000 in
theorem ggX3_init_X0_init : GoodIn wsX3_init wsX0_init := goodIn_r _ [33, 34, 2, 3] (by decide +kernel) (by decide +kernel)
set_option maxRecDepth 20000 in
theorem gX3_init_X0_init_n46 : GoodIn wsX3_init (wsX0_init) := ggX3_init_X0_init
theorem dX3_init_0 : decode cX3_init 0 = .ok (.aload_n 0, 1) := by decide +kernel
theorem dX3_init_1 : decode cX3_init 1 = .ok (.invokespecial 1, 3) := by decide +kernel
theorem dX3_init_4 : decode cX3_init 4 = .ok (.aload_n 0, 1) := by decide +kernel
theorem dX3_init_5 : decode cX3_init 5 = .ok (.iconst 5, 1) := by decide +kernel
theorem dX3_init_6 : decode cX3_init 6 = .ok (.newarray .int, 2) := by decide +kernel
theorem dX3_init_8 : decode cX3_init 8 = .ok (.putfield 9, 3) := by decide +kernel
theorem dX3_init_11 : decode cX3_init 11 = .ok (.aload_n 0, 1) := by decide +kernel
theorem dX3_init_12 : decode cX3_init 12 = .ok (.iconst 5, 1) := by decide +kernel
theorem dX3_init_13 : decode cX3_init 13 = .ok (.newarray .int, 2) := by decide +kernel
theorem dX3_init_15 : decode cX3_init 15 = .ok (.putfield 13, 3) := by decide +kernel
theorem dX3_init_18 : decode cX3_init 18 = .ok (.aload_n 0, 1) := by decide +kernel
theorem dX3_init_19 : decode cX3_init 19 = .ok (.bipush 8, 2) := by decide +kernel
theorem dX3_init_21 : decode cX3_init 21 = .ok (.newarray .int, 2) := by decide +kernel
theorem dX3_init_23 : decode cX3_init 23 = .ok (.putfield 16, 3) := by decide +kernel
theorem dX3_init_26 : decode cX3_init 26 = .ok (.aload_n 0, 1) := by decide +kernel
theorem dX3_init_27 : decode cX3_init 27 = .ok (.bipush 6, 2) := by decide +kernel
theorem dX3_init_29 : decode cX3_init 29 = .ok (.anewarray 19, 3) := by decide +kernel
theorem dX3_init_32 : decode cX3_init 32 = .ok (.putfield 21, 3) := by decide +kernel
theorem dX3_init_35 : decode cX3_init 35 = .ok (.aload_n 0, 1) := by decide +kernel
theorem dX3_init_36 : decode cX3_init 36 = .ok (.iconst 4, 1) := by decide +kernel
theorem dX3_init_37 : decode cX3_init 37 = .ok (.anewarray 25, 3) := by decide +kernel
theorem dX3_init_40 : decode cX3_init 40 = .ok (.putfield 27, 3) := by decide +kernel
theorem dX3_init_43 : decode cX3_init 43 = .ok (.aload_n 0, 1) := by decide +kernel
theorem dX3_init_44 : decode cX3_init 44 = .ok (.new 31, 3) := by decide +kernel
theorem dX3_init_47 : decode cX3_init 47 = .ok (.dup, 1) := by decide +kernel
theorem dX3_init_48 : decode cX3_init 48 = .ok (.invokespecial 33, 3) := by decide +kernel
theorem dX3_init_51 : decode cX3_init 51 = .ok (.putfield 34, 3) := by decide +kernel
theorem dX3_init_54 : decode cX3_init 54 = .ok (.aload_n 0, 1) := by decide +kernel
theorem dX3_init_55 : decode cX3_init 55 = .ok (.new 19, 3) := by decide +kernel
theorem dX3_init_58 : decode cX3_init 58 = .ok (.dup, 1) := by decide +kernel
theorem dX3_init_59 : decode cX3_init 59 = .ok (.invokespecial 38, 3) := by decide +kernel
theorem dX3_init_62 : decode cX3_init 62 = .ok (.putfield 39, 3) := by decide +kernel
theorem dX3_init_65 : decode cX3_init 65 = .ok (.aload_n 0, 1) := by decide +kernel
theorem dX3_init_66 : decode cX3_init 66 = .ok (.new 31, 3) := by decide +kernel
theorem dX3_init_69 : decode cX3_init 69 = .ok (.dup, 1) := by decide +kernel
theorem dX3_init_70 : decode cX3_init 70 = .ok (.invokespecial 33, 3) := by decide +kernel
theorem dX3_init_73 : decode cX3_init 73 = .ok (.putfield 43, 3) := by decide +kernel
theorem dX3_init_76 : decode cX3_init 76 = .ok (.iconst 0, 1) := by decide +kernel
theorem dX3_init_77 : decode cX3_init 77 = .ok (.istore_n 1, 1) := by decide +kernel
theorem dX3_init_78 : decode cX3_init 78 = .ok (.iload_n 1, 1) := by decide +kernel
theorem dX3_init_79 : decode cX3_init 79 = .ok (.iconst 5, 1) := by decide +kernel
theorem dX3_init_80 : decode cX3_init 80 = .ok (.if_icmp .ge 24, 3) := by decide +kernel
theorem dX3_init_83 : decode cX3_init 83 = .ok (.aload_n 0, 1) := by decide +kernel
theorem dX3_init_84 : decode cX3_init 84 = .ok (.getfield 9, 3) := by decide +kernel
theorem dX3_init_87 : decode cX3_init 87 = .ok (.iload_n 1, 1) := by decide +kernel
theorem dX3_init_88 : decode cX3_init 88 = .ok (.bipush 100, 2) := by decide +kernel
theorem dX3_init_90 : decode cX3_init 90 = .ok (.iastore, 1) := by decide +kernel
theorem dX3_init_91 : decode cX3_init 91 = .ok (.aload_n 0, 1) := by decide +kernel
theorem dX3_init_92 : decode cX3_init 92 = .ok (.getfield 13, 3) := by decide +kernel
theorem dX3_init_95 : decode cX3_init 95 = .ok (.iload_n 1, 1) := by decide +kernel
theorem dX3_init_96 : decode cX3_init 96 = .ok (.iconst 5, 1) := by decide +kernel
theorem dX3_init_97 : decode cX3_init 97 = .ok (.iastore, 1) := by decide +kernel
theorem dX3_init_98 : decode cX3_init 98 = .ok (.iinc 1 1, 3) := by decide +kernel
theorem dX3_init_101 : decode cX3_init 101 = .ok (.goto (-23), 3) := by decide +kernel
theorem dX3_init_104 : decode cX3_init 104 = .ok (.iconst 0, 1) := by decide +kernel
theorem dX3_init_105 : decode cX3_init 105 = .ok (.istore_n 1, 1) := by decide +kernel
theorem dX3_init_106 : decode cX3_init 106 = .ok (.iload_n 1, 1) := by decide +kernel
theorem dX3_init_107 : decode cX3_init 107 = .ok (.bipush 6, 2) := by decide +kernel
theorem dX3_init_109 : decode cX3_init 109 = .ok (.if_icmp .ge 22, 3) := by decide +kernel
theorem dX3_init_112 : decode cX3_init 112 = .ok (.aload_n 0, 1) := by decide +kernel
theorem dX3_init_113 : decode cX3_init 113 = .ok (.getfield 21, 3) := by decide +kernel
theorem dX3_init_116 : decode cX3_init 116 = .ok (.iload_n 1, 1) := by decide +kernel
theorem dX3_init_117 : decode cX3_init 117 = .ok (.new 19, 3) := by decide +kernel
theorem dX3_init_120 : decode cX3_init 120 = .ok (.dup, 1) := by decide +kernel
theorem dX3_init_121 : decode cX3_init 121 = .ok (.invokespecial 38, 3) := by decide +kernel
theorem dX3_init_124 : decode cX3_init 124 = .ok (.aastore, 1) := by decide +kernel
theorem dX3_init_125 : decode cX3_init 125 = .ok (.iinc 1 1, 3) := by decide +kernel
theorem dX3_init_128 : decode cX3_init 128 = .ok (.goto (-22), 3) := by decide +kernel
theorem dX3_init_131 : decode cX3_init 131 = .ok (.iconst 0, 1) := by decide +kernel
theorem dX3_init_132 : decode cX3_init 132 = .ok (.istore_n 1, 1) := by decide +kernel
theorem dX3_init_133 : decode cX3_init 133 = .ok (.iload_n 1, 1) := by decide +kernel
theorem dX3_init_134 : decode cX3_init 134 = .ok (.iconst 4, 1) := by decide +kernel
theorem dX3_init_135 : decode cX3_init 135 = .ok (.if_icmp .ge 22, 3) := by decide +kernel
theorem dX3_init_138 : decode cX3_init 138 = .ok (.aload_n 0, 1) := by decide +kernel
theorem dX3_init_139 : decode cX3_init 139 = .ok (.getfield 27, 3) := by decide +kernel
theorem dX3_init_142 : decode cX3_init 142 = .ok (.iload_n 1, 1) := by decide +kernel
theorem dX3_init_143 : decode cX3_init 143 = .ok (.new 25, 3) := by decide +kernel
theorem dX3_init_146 : decode cX3_init 146 = .ok (.dup, 1) := by decide +kernel
theorem dX3_init_147 : decode cX3_init 147 = .ok (.invokespecial 46, 3) := by decide +kernel
theorem dX3_init_150 : decode cX3_init 150 = .ok (.aastore, 1) := by decide +kernel
theorem dX3_init_151 : decode cX3_init 151 = .ok (.iinc 1 1, 3) := by decide +kernel
theorem dX3_init_154 : decode cX3_init 154 = .ok (.goto (-21), 3) := by decide +kernel
theorem dX3_init_157 : decode cX3_init 157 = .ok (.return_, 1) := by decide +kernel
set_option maxRecDepth 20000 in
theorem ggX3_set_X3_isLayer : GoodIn wsX3_set wsX3_isLayer := goodIn_r _ [10, 11, 12, 9, 13] (by decide +kernel) (by decide +kernel)
set_option maxRecDepth 20000 in
theorem gX3_set_X3_isLayer : GoodIn wsX3_set (va_wsS RX3 47 yX3_isLayer wsX3_isLayer) := goodIn_app (goodIn_of _ (by decide +kernel)) ggX3_set_X3_isLayer
set_option maxRecDepth 20000 in
theorem ggX3_set_X3_isWithin : GoodIn wsX3_set wsX3_isWithin := goodIn_r _ [13] (by decide +kernel) (by decide +kernel)
set_option maxRecDepth 20000 in
theorem gX3_set_X3_isWithin : GoodIn wsX3_set (va_wsS RX3 58 yX3_isWithin wsX3_isWithin) := goodIn_app (goodIn_of _ (by decide +kernel)) ggX3_set_X3_isWithin
theorem dX3_set_0 : decode cX3_set 0 = .ok (.iload_n 1, 1) := by decide +kernel
theorem dX3_set_1 : decode cX3_set 1 = .ok (.invokestatic 47, 3) := by decide +kernel
theorem dX3_set_4 : decode cX3_set 4 = .ok (.ifCond .ne 13, 3) := by decide +kernel
theorem dX3_set_7 : decode cX3_set 7 = .ok (.new 51, 3) := by decide +kernel
theorem dX3_set_10 : decode cX3_set 10 = .ok (.dup, 1) := by decide +kernel
theorem dX3_set_11 : decode cX3_set 11 = .ok (.ldc 53, 2) := by decide +kernel
theorem dX3_set_13 : decode cX3_set 13 = .ok (.invokespecial 55, 3) := by decide +kernel
theorem dX3_set_16 : decode cX3_set 16 = .ok (.athrow, 1) := by decide +kernel
theorem dX3_set_17 : decode cX3_set 17 = .ok (.iload_n 2, 1) := by decide +kernel
theorem dX3_set_18 : decode cX3_set 18 = .ok (.iconst 0, 1) := by decide +kernel
theorem dX3_set_19 : decode cX3_set 19 = .ok (.sipush 500, 3) := by decide +kernel
theorem dX3_set_22 : decode cX3_set 22 = .ok (.invokestatic 58, 3) := by decide +kernel
theorem dX3_set_25 : decode cX3_set 25 = .ok (.ifCond .ne 13, 3) := by decide +kernel
theorem dX3_set_28 : decode cX3_set 28 = .ok (.new 62, 3) := by decide +kernel
theorem dX3_set_31 : decode cX3_set 31 = .ok (.dup, 1) := by decide +kernel
theorem dX3_set_32 : decode cX3_set 32 = .ok (.ldc 64, 2) := by decide +kernel
theorem dX3_set_34 : decode cX3_set 34 = .ok (.invokespecial 66, 3) := by decide +kernel
theorem dX3_set_37 : decode cX3_set 37 = .ok (.athrow, 1) := by decide +kernel
theorem dX3_set_38 : decode cX3_set 38 = .ok (.iload_n 3, 1) := by decide +kernel
theorem dX3_set_39 : decode cX3_set 39 = .ok (.iconst 1, 1) := by decide +kernel
theorem dX3_set_40 : decode cX3_set 40 = .ok (.bipush 9, 2) := by decide +kernel
theorem dX3_set_42 : decode cX3_set 42 = .ok (.invokestatic 58, 3) := by decide +kernel
theorem dX3_set_45 : decode cX3_set 45 = .ok (.ifCond .ne 13, 3) := by decide +kernel
theorem dX3_set_48 : decode cX3_set 48 = .ok (.new 62, 3) := by decide +kernel
theorem dX3_set_51 : decode cX3_set 51 = .ok (.dup, 1) := by decide +kernel
theorem dX3_set_52 : decode cX3_set 52 = .ok (.ldc 67, 2) := by decide +kernel
theorem dX3_set_54 : decode cX3_set 54 = .ok (.invokespecial 66, 3) := by decide +kernel
theorem dX3_set_57 : decode cX3_set 57 = .ok (.athrow, 1) := by decide +kernel
theorem dX3_set_58 : decode cX3_set 58 = .ok (.bipush 10, 2) := by decide +kernel
theorem dX3_set_60 : decode cX3_set 60 = .ok (.aload_n 0, 1) := by decide +kernel
theorem dX3_set_61 : decode cX3_set 61 = .ok (.getfield 9, 3) := by decide +kernel
theorem dX3_set_64 : decode cX3_set 64 = .ok (.iload_n 1, 1) := by decide +kernel
theorem dX3_set_65 : decode cX3_set 65 = .ok (.iaload, 1) := by decide +kernel
theorem dX3_set_66 : decode cX3_set 66 = .ok (.imul, 1) := by decide +kernel
theorem dX3_set_67 : decode cX3_set 67 = .ok (.aload_n 0, 1) := by decide +kernel
theorem dX3_set_68 : decode cX3_set 68 = .ok (.getfield 13, 3) := by decide +kernel
theorem dX3_set_71 : decode cX3_set 71 = .ok (.iload_n 1, 1) := by decide +kernel
theorem dX3_set_72 : decode cX3_set 72 = .ok (.iaload, 1) := by decide +kernel
theorem dX3_set_73 : decode cX3_set 73 = .ok (.iadd, 1) := by decide +kernel
theorem dX3_set_74 : decode cX3_set 74 = .ok (.istore 4, 2) := by decide +kernel
theorem dX3_set_76 : decode cX3_set 76 = .ok (.aload_n 0, 1) := by decide +kernel
theorem dX3_set_77 : decode cX3_set 77 = .ok (.getfield 9, 3) := by decide +kernel
theorem dX3_set_80 : decode cX3_set 80 = .ok (.iload_n 1, 1) := by decide +kernel
theorem dX3_set_81 : decode cX3_set 81 = .ok (.iload_n 2, 1) := by decide +kernel
theorem dX3_set_82 : decode cX3_set 82 = .ok (.iastore, 1) := by decide +kernel
theorem dX3_set_83 : decode cX3_set 83 = .ok (.aload_n 0, 1) := by decide +kernel
theorem dX3_set_84 : decode cX3_set 84 = .ok (.getfield 13, 3) := by decide +kernel
theorem dX3_set_87 : decode cX3_set 87 = .ok (.iload_n 1, 1) := by decide +kernel
theorem dX3_set_88 : decode cX3_set 88 = .ok (.iload_n 3, 1) := by decide +kernel
theorem dX3_set_89 : decode cX3_set 89 = .ok (.iastore, 1) := by decide +kernel
theorem dX3_set_90 : decode cX3_set 90 = .ok (.iload 4, 2) := by decide +kernel
theorem dX3_set_92 : decode cX3_set 92 = .ok (.ireturn, 1) := by decide +kernel
set_option maxRecDepth 20000 in
theorem ggX3_setGust_X3_isWithin : GoodIn wsX3_setGust wsX3_isWithin := goodIn_r _ [9] (by decide +kernel) (by decide +kernel)
set_option maxRecDepth 20000 in
theorem gX3_setGust_X3_isWithin : GoodIn wsX3_setGust (va_wsS RX3 58 yX3_isWithin wsX3_isWithin) := goodIn_app (goodIn_of _ (by decide +kernel)) ggX3_setGust_X3_isWithin
theorem dX3_setGust_0 : decode cX3_setGust 0 = .ok (.iload_n 1, 1) := by decide +kernel
theorem dX3_setGust_1 : decode cX3_setGust 1 = .ok (.iconst 0, 1) := by decide +kernel
theorem dX3_setGust_2 : decode cX3_setGust 2 = .ok (.bipush 7, 2) := by decide +kernel
theorem dX3_setGust_4 : decode cX3_setGust 4 = .ok (.invokestatic 58, 3) := by decide +kernel
theorem dX3_setGust_7 : decode cX3_setGust 7 = .ok (.ifCond .ne 13, 3) := by decide +kernel
theorem dX3_setGust_10 : decode cX3_setGust 10 = .ok (.new 51, 3) := by decide +kernel
theorem dX3_setGust_13 : decode cX3_setGust 13 = .ok (.dup, 1) := by decide +kernel
theorem dX3_setGust_14 : decode cX3_setGust 14 = .ok (.ldc 69, 2) := by decide +kernel
theorem dX3_setGust_16 : decode cX3_setGust 16 = .ok (.invokespecial 55, 3) := by decide +kernel
theorem dX3_setGust_19 : decode cX3_setGust 19 = .ok (.athrow, 1) := by decide +kernel
theorem dX3_setGust_20 : decode cX3_setGust 20 = .ok (.iload_n 2, 1) := by decide +kernel
theorem dX3_setGust_21 : decode cX3_setGust 21 = .ok (.iconst 0, 1) := by decide +kernel
theorem dX3_setGust_22 : decode cX3_setGust 22 = .ok (.bipush 9, 2) := by decide +kernel
theorem dX3_setGust_24 : decode cX3_setGust 24 = .ok (.invokestatic 58, 3) := by decide +kernel
theorem dX3_setGust_27 : decode cX3_setGust 27 = .ok (.ifCond .ne 13, 3) := by decide +kernel
theorem dX3_setGust_30 : decode cX3_setGust 30 = .ok (.new 62, 3) := by decide +kernel
theorem dX3_setGust_33 : decode cX3_setGust 33 = .ok (.dup, 1) := by decide +kernel
theorem dX3_setGust_34 : decode cX3_setGust 34 = .ok (.ldc 71, 2) := by decide +kernel
theorem dX3_setGust_36 : decode cX3_setGust 36 = .ok (.invokespecial 66, 3) := by decide +kernel
theorem dX3_setGust_39 : decode cX3_setGust 39 = .ok (.athrow, 1) := by decide +kernel
theorem dX3_setGust_40 : decode cX3_setGust 40 = .ok (.aload_n 0, 1) := by decide +kernel
theorem dX3_setGust_41 : decode cX3_setGust 41 = .ok (.getfield 16, 3) := by decide +kernel
theorem dX3_setGust_44 : decode cX3_setGust 44 = .ok (.iload_n 1, 1) := by decide +kernel
theorem dX3_setGust_45 : decode cX3_setGust 45 = .ok (.iaload, 1) := by decide +kernel
theorem dX3_setGust_46 : decode cX3_setGust 46 = .ok (.istore_n 3, 1) := by decide +kernel
theorem dX3_setGust_47 : decode cX3_setGust 47 = .ok (.aload_n 0, 1) := by decide +kernel
theorem dX3_setGust_48 : decode cX3_setGust 48 = .ok (.getfield 16, 3) := by decide +kernel
theorem dX3_setGust_51 : decode cX3_setGust 51 = .ok (.iload_n 1, 1) := by decide +kernel
theorem dX3_setGust_52 : decode cX3_setGust 52 = .ok (.iload_n 2, 1) := by decide +kernel
theorem dX3_setGust_53 : decode cX3_setGust 53 = .ok (.iastore, 1) := by decide +kernel
theorem dX3_setGust_54 : decode cX3_setGust 54 = .ok (.iload_n 3, 1) := by decide +kernel
theorem dX3_setGust_55 : decode cX3_setGust 55 = .ok (.ireturn, 1) := by decide +kernel
set_option maxRecDepth 20000 in
theorem ggX3_build_X3_isWithin : GoodIn wsX3_build wsX3_isWithin := goodIn_r _ [10] (by decide +kernel) (by decide +kernel)
set_option maxRecDepth 20000 in
theorem gX3_build_X3_isWithin : GoodIn wsX3_build (va_wsS RX3 58 yX3_isWithin wsX3_isWithin) := goodIn_app (goodIn_of _ (by decide +kernel)) ggX3_build_X3_isWithin
theorem dX3_build_0 : decode cX3_build 0 = .ok (.iload_n 1, 1) := by decide +kernel
theorem dX3_build_1 : decode cX3_build 1 = .ok (.iconst 1, 1) := by decide +kernel
theorem dX3_build_2 : decode cX3_build 2 = .ok (.bipush 8, 2) := by decide +kernel
theorem dX3_build_4 : decode cX3_build 4 = .ok (.invokestatic 58, 3) := by decide +kernel
theorem dX3_build_7 : decode cX3_build 7 = .ok (.ifCond .ne 13, 3) := by decide +kernel
theorem dX3_build_10 : decode cX3_build 10 = .ok (.new 62, 3) := by decide +kernel
theorem dX3_build_13 : decode cX3_build 13 = .ok (.dup, 1) := by decide +kernel
theorem dX3_build_14 : decode cX3_build 14 = .ok (.ldc 73, 2) := by decide +kernel
theorem dX3_build_16 : decode cX3_build 16 = .ok (.invokespecial 66, 3) := by decide +kernel
theorem dX3_build_19 : decode cX3_build 19 = .ok (.athrow, 1) := by decide +kernel
theorem dX3_build_20 : decode cX3_build 20 = .ok (.aload_n 0, 1) := by decide +kernel
theorem dX3_build_21 : decode cX3_build 21 = .ok (.getfield 75, 3) := by decide +kernel
theorem dX3_build_24 : decode cX3_build 24 = .ok (.bipush 6, 2) := by decide +kernel
theorem dX3_build_26 : decode cX3_build 26 = .ok (.if_icmp .lt 13, 3) := by decide +kernel
theorem dX3_build_29 : decode cX3_build 29 = .ok (.new 79, 3) := by decide +kernel
theorem dX3_build_32 : decode cX3_build 32 = .ok (.dup, 1) := by decide +kernel
theorem dX3_build_33 : decode cX3_build 33 = .ok (.ldc 81, 2) := by decide +kernel
theorem dX3_build_35 : decode cX3_build 35 = .ok (.invokespecial 83, 3) := by decide +kernel
theorem dX3_build_38 : decode cX3_build 38 = .ok (.athrow, 1) := by decide +kernel
theorem dX3_build_39 : decode cX3_build 39 = .ok (.aload_n 0, 1) := by decide +kernel
theorem dX3_build_40 : decode cX3_build 40 = .ok (.getfield 21, 3) := by decide +kernel
theorem dX3_build_43 : decode cX3_build 43 = .ok (.aload_n 0, 1) := by decide +kernel
theorem dX3_build_44 : decode cX3_build 44 = .ok (.getfield 75, 3) := by decide +kernel
theorem dX3_build_47 : decode cX3_build 47 = .ok (.aaload, 1) := by decide +kernel
theorem dX3_build_48 : decode cX3_build 48 = .ok (.iload_n 1, 1) := by decide +kernel
theorem dX3_build_49 : decode cX3_build 49 = .ok (.putfield 84, 3) := by decide +kernel
theorem dX3_build_52 : decode cX3_build 52 = .ok (.aload_n 0, 1) := by decide +kernel
theorem dX3_build_53 : decode cX3_build 53 = .ok (.dup, 1) := by decide +kernel
theorem dX3_build_54 : decode cX3_build 54 = .ok (.getfield 75, 3) := by decide +kernel
theorem dX3_build_57 : decode cX3_build 57 = .ok (.iconst 1, 1) := by decide +kernel
theorem dX3_build_58 : decode cX3_build 58 = .ok (.iadd, 1) := by decide +kernel
theorem dX3_build_59 : decode cX3_build 59 = .ok (.putfield 75, 3) := by decide +kernel
theorem dX3_build_62 : decode cX3_build 62 = .ok (.aload_n 0, 1) := by decide +kernel
theorem dX3_build_63 : decode cX3_build 63 = .ok (.getfield 75, 3) := by decide +kernel
theorem dX3_build_66 : decode cX3_build 66 = .ok (.iconst 1, 1) := by decide +kernel
theorem dX3_build_67 : decode cX3_build 67 = .ok (.isub, 1) := by decide +kernel
theorem dX3_build_68 : decode cX3_build 68 = .ok (.ireturn, 1) := by decide +kernel
set_option maxRecDepth 20000 in
theorem ggX3_fill_X3_isSledge : GoodIn wsX3_fill wsX3_isSledge := goodIn_r _ [11, 12, 40, 41, 42, 43, 44, 45, 46, 47, 48, 49, 50, 51] (by decide +kernel) (by decide +kernel)
set_option maxRecDepth 20000 in
theorem gX3_fill_X3_isSledge : GoodIn wsX3_fill (wsV RX3 87 RX3 yX3_isSledge wsX3_isSledge) := goodIn_app (goodIn_of _ (by decide +kernel)) ggX3_fill_X3_isSledge
set_option maxRecDepth 20000 in
theorem ggX3_fill_X3_isLayer : GoodIn wsX3_fill wsX3_isLayer := goodIn_r _ [15, 16, 17, 10, 18] (by decide +kernel) (by decide +kernel)
set_option maxRecDepth 20000 in
theorem gX3_fill_X3_isLayer : GoodIn wsX3_fill (va_wsS RX3 47 yX3_isLayer wsX3_isLayer) := goodIn_app (goodIn_of _ (by decide +kernel)) ggX3_fill_X3_isLayer
set_option maxRecDepth 20000 in
theorem ggX3_fill_X2_isFull : GoodIn wsX3_fill wsX2_isFull := goodIn_r _ [23, 24, 25, 52, 53, 54, 55, 56] (by decide +kernel) (by decide +kernel)
set_option maxRecDepth 20000 in
theorem gX3_fill_X2_isFull : GoodIn wsX3_fill (wsV RX3 97 RX2 yX2_isFull wsX2_isFull) := goodIn_app (goodIn_of _ (by decide +kernel)) ggX3_fill_X2_isFull
set_option maxRecDepth 20000 in
theorem ggX3_fill_X3_sackWeight : GoodIn wsX3_fill wsX3_sackWeight := goodIn_r _ [29, 30, 40, 41, 42, 43, 44, 45, 46, 47, 48, 49, 50, 51] (by decide +kernel) (by decide +kernel)
set_option maxRecDepth 20000 in
theorem gX3_fill_X3_sackWeight : GoodIn wsX3_fill (wsV RX3 105 RX3 yX3_sackWeight wsX3_sackWeight) := goodIn_app (goodIn_of _ (by decide +kernel)) ggX3_fill_X3_sackWeight
set_option maxRecDepth 20000 in
theorem ggX3_fill_X2_load : GoodIn wsX3_fill wsX2_load := goodIn_r _ [34, 35, 24, 36, 20, 21, 22, 23, 25, 52, 53, 54, 55, 56] (by decide +kernel) (by decide +kernel)
set_option maxRecDepth 20000 in
theorem gX3_fill_X2_load : GoodIn wsX3_fill (wsV RX3 109 RX2 yX2_load wsX2_load) := goodIn_app (goodIn_of _ (by decide +kernel)) ggX3_fill_X2_load
set_option maxRecDepth 20000 in
theorem ggX3_fill_X3_kindOf : GoodIn wsX3_fill wsX3_kindOf := goodIn_r _ [39] (by decide +kernel) (by decide +kernel)
set_option maxRecDepth 20000 in
theorem gX3_fill_X3_kindOf : GoodIn wsX3_fill (va_wsS RX3 113 yX3_kindOf wsX3_kindOf) := goodIn_app (goodIn_of _ (by decide +kernel)) ggX3_fill_X3_kindOf
theorem dX3_fill_0 : decode cX3_fill 0 = .ok (.aload_n 0, 1) := by decide +kernel
theorem dX3_fill_1 : decode cX3_fill 1 = .ok (.iload_n 1, 1) := by decide +kernel
theorem dX3_fill_2 : decode cX3_fill 2 = .ok (.invokevirtual 87, 3) := by decide +kernel
theorem dX3_fill_5 : decode cX3_fill 5 = .ok (.ifCond .ne 13, 3) := by decide +kernel
theorem dX3_fill_8 : decode cX3_fill 8 = .ok (.new 51, 3) := by decide +kernel
theorem dX3_fill_11 : decode cX3_fill 11 = .ok (.dup, 1) := by decide +kernel
theorem dX3_fill_12 : decode cX3_fill 12 = .ok (.ldc 90, 2) := by decide +kernel
theorem dX3_fill_14 : decode cX3_fill 14 = .ok (.invokespecial 55, 3) := by decide +kernel
theorem dX3_fill_17 : decode cX3_fill 17 = .ok (.athrow, 1) := by decide +kernel
theorem dX3_fill_18 : decode cX3_fill 18 = .ok (.iload_n 2, 1) := by decide +kernel
theorem dX3_fill_19 : decode cX3_fill 19 = .ok (.invokestatic 47, 3) := by decide +kernel
theorem dX3_fill_22 : decode cX3_fill 22 = .ok (.ifCond .ne 13, 3) := by decide +kernel
theorem dX3_fill_25 : decode cX3_fill 25 = .ok (.new 51, 3) := by decide +kernel
theorem dX3_fill_28 : decode cX3_fill 28 = .ok (.dup, 1) := by decide +kernel
theorem dX3_fill_29 : decode cX3_fill 29 = .ok (.ldc 53, 2) := by decide +kernel
theorem dX3_fill_31 : decode cX3_fill 31 = .ok (.invokespecial 55, 3) := by decide +kernel
theorem dX3_fill_34 : decode cX3_fill 34 = .ok (.athrow, 1) := by decide +kernel
theorem dX3_fill_35 : decode cX3_fill 35 = .ok (.aload_n 0, 1) := by decide +kernel
theorem dX3_fill_36 : decode cX3_fill 36 = .ok (.getfield 21, 3) := by decide +kernel
theorem dX3_fill_39 : decode cX3_fill 39 = .ok (.iload_n 1, 1) := by decide +kernel
theorem dX3_fill_40 : decode cX3_fill 40 = .ok (.aaload, 1) := by decide +kernel
theorem dX3_fill_41 : decode cX3_fill 41 = .ok (.astore_n 3, 1) := by decide +kernel
theorem dX3_fill_42 : decode cX3_fill 42 = .ok (.aload_n 3, 1) := by decide +kernel
theorem dX3_fill_43 : decode cX3_fill 43 = .ok (.getfield 92, 3) := by decide +kernel
theorem dX3_fill_46 : decode cX3_fill 46 = .ok (.ifCond .eq 13, 3) := by decide +kernel
theorem dX3_fill_49 : decode cX3_fill 49 = .ok (.new 79, 3) := by decide +kernel
theorem dX3_fill_52 : decode cX3_fill 52 = .ok (.dup, 1) := by decide +kernel
theorem dX3_fill_53 : decode cX3_fill 53 = .ok (.ldc 95, 2) := by decide +kernel
theorem dX3_fill_55 : decode cX3_fill 55 = .ok (.invokespecial 83, 3) := by decide +kernel
theorem dX3_fill_58 : decode cX3_fill 58 = .ok (.athrow, 1) := by decide +kernel
theorem dX3_fill_59 : decode cX3_fill 59 = .ok (.aload_n 3, 1) := by decide +kernel
theorem dX3_fill_60 : decode cX3_fill 60 = .ok (.invokevirtual 97, 3) := by decide +kernel
theorem dX3_fill_63 : decode cX3_fill 63 = .ok (.ifCond .eq 13, 3) := by decide +kernel
theorem dX3_fill_66 : decode cX3_fill 66 = .ok (.new 79, 3) := by decide +kernel
theorem dX3_fill_69 : decode cX3_fill 69 = .ok (.dup, 1) := by decide +kernel
theorem dX3_fill_70 : decode cX3_fill 70 = .ok (.ldc 101, 2) := by decide +kernel
theorem dX3_fill_72 : decode cX3_fill 72 = .ok (.invokespecial 83, 3) := by decide +kernel
theorem dX3_fill_75 : decode cX3_fill 75 = .ok (.athrow, 1) := by decide +kernel
theorem dX3_fill_76 : decode cX3_fill 76 = .ok (.aload_n 0, 1) := by decide +kernel
theorem dX3_fill_77 : decode cX3_fill 77 = .ok (.getfield 9, 3) := by decide +kernel
theorem dX3_fill_80 : decode cX3_fill 80 = .ok (.iload_n 2, 1) := by decide +kernel
theorem dX3_fill_81 : decode cX3_fill 81 = .ok (.iaload, 1) := by decide +kernel
theorem dX3_fill_82 : decode cX3_fill 82 = .ok (.bipush 10, 2) := by decide +kernel
theorem dX3_fill_84 : decode cX3_fill 84 = .ok (.if_icmp .ge 13, 3) := by decide +kernel
theorem dX3_fill_87 : decode cX3_fill 87 = .ok (.new 79, 3) := by decide +kernel
theorem dX3_fill_90 : decode cX3_fill 90 = .ok (.dup, 1) := by decide +kernel
theorem dX3_fill_91 : decode cX3_fill 91 = .ok (.ldc 103, 2) := by decide +kernel
theorem dX3_fill_93 : decode cX3_fill 93 = .ok (.invokespecial 83, 3) := by decide +kernel
theorem dX3_fill_96 : decode cX3_fill 96 = .ok (.athrow, 1) := by decide +kernel
theorem dX3_fill_97 : decode cX3_fill 97 = .ok (.aload_n 0, 1) := by decide +kernel
theorem dX3_fill_98 : decode cX3_fill 98 = .ok (.getfield 9, 3) := by decide +kernel
theorem dX3_fill_101 : decode cX3_fill 101 = .ok (.iload_n 2, 1) := by decide +kernel
theorem dX3_fill_102 : decode cX3_fill 102 = .ok (.dup2, 1) := by decide +kernel
theorem dX3_fill_103 : decode cX3_fill 103 = .ok (.iaload, 1) := by decide +kernel
theorem dX3_fill_104 : decode cX3_fill 104 = .ok (.bipush 10, 2) := by decide +kernel
theorem dX3_fill_106 : decode cX3_fill 106 = .ok (.isub, 1) := by decide +kernel
theorem dX3_fill_107 : decode cX3_fill 107 = .ok (.iastore, 1) := by decide +kernel
theorem dX3_fill_108 : decode cX3_fill 108 = .ok (.aload_n 0, 1) := by decide +kernel
theorem dX3_fill_109 : decode cX3_fill 109 = .ok (.iload_n 2, 1) := by decide +kernel
theorem dX3_fill_110 : decode cX3_fill 110 = .ok (.invokevirtual 105, 3) := by decide +kernel
theorem dX3_fill_113 : decode cX3_fill 113 = .ok (.istore 4, 2) := by decide +kernel
theorem dX3_fill_115 : decode cX3_fill 115 = .ok (.aload_n 3, 1) := by decide +kernel
theorem dX3_fill_116 : decode cX3_fill 116 = .ok (.iload 4, 2) := by decide +kernel
theorem dX3_fill_118 : decode cX3_fill 118 = .ok (.invokevirtual 109, 3) := by decide +kernel
theorem dX3_fill_121 : decode cX3_fill 121 = .ok (.iload 4, 2) := by decide +kernel
theorem dX3_fill_123 : decode cX3_fill 123 = .ok (.invokestatic 113, 3) := by decide +kernel
theorem dX3_fill_126 : decode cX3_fill 126 = .ok (.ireturn, 1) := by decide +kernel
set_option maxRecDepth 20000 in
theorem ggX3_go_X3_isSledge : GoodIn wsX3_go wsX3_isSledge := goodIn_r _ [10, 11, 12, 13, 14, 15, 16, 17, 18, 19, 20, 21, 22, 23] (by decide +kernel) (by decide +kernel)
set_option maxRecDepth 20000 in
theorem gX3_go_X3_isSledge : GoodIn wsX3_go (wsV RX3 87 RX3 yX3_isSledge wsX3_isSledge) := goodIn_app (goodIn_of _ (by decide +kernel)) ggX3_go_X3_isSledge
theorem dX3_go_0 : decode cX3_go 0 = .ok (.aload_n 0, 1) := by decide +kernel
theorem dX3_go_1 : decode cX3_go 1 = .ok (.iload_n 1, 1) := by decide +kernel
theorem dX3_go_2 : decode cX3_go 2 = .ok (.invokevirtual 87, 3) := by decide +kernel
theorem dX3_go_5 : decode cX3_go 5 = .ok (.ifCond .ne 13, 3) := by decide +kernel
theorem dX3_go_8 : decode cX3_go 8 = .ok (.new 51, 3) := by decide +kernel
theorem dX3_go_11 : decode cX3_go 11 = .ok (.dup, 1) := by decide +kernel
theorem dX3_go_12 : decode cX3_go 12 = .ok (.ldc 90, 2) := by decide +kernel
theorem dX3_go_14 : decode cX3_go 14 = .ok (.invokespecial 55, 3) := by decide +kernel
theorem dX3_go_17 : decode cX3_go 17 = .ok (.athrow, 1) := by decide +kernel
theorem dX3_go_18 : decode cX3_go 18 = .ok (.aload_n 0, 1) := by decide +kernel
theorem dX3_go_19 : decode cX3_go 19 = .ok (.getfield 21, 3) := by decide +kernel
theorem dX3_go_22 : decode cX3_go 22 = .ok (.iload_n 1, 1) := by decide +kernel
theorem dX3_go_23 : decode cX3_go 23 = .ok (.aaload, 1) := by decide +kernel
theorem dX3_go_24 : decode cX3_go 24 = .ok (.astore_n 2, 1) := by decide +kernel
theorem dX3_go_25 : decode cX3_go 25 = .ok (.aload_n 2, 1) := by decide +kernel
theorem dX3_go_26 : decode cX3_go 26 = .ok (.getfield 92, 3) := by decide +kernel
theorem dX3_go_29 : decode cX3_go 29 = .ok (.ifCond .eq 13, 3) := by decide +kernel
theorem dX3_go_32 : decode cX3_go 32 = .ok (.new 79, 3) := by decide +kernel
theorem dX3_go_35 : decode cX3_go 35 = .ok (.dup, 1) := by decide +kernel
theorem dX3_go_36 : decode cX3_go 36 = .ok (.ldc 95, 2) := by decide +kernel
theorem dX3_go_38 : decode cX3_go 38 = .ok (.invokespecial 83, 3) := by decide +kernel
theorem dX3_go_41 : decode cX3_go 41 = .ok (.athrow, 1) := by decide +kernel
theorem dX3_go_42 : decode cX3_go 42 = .ok (.aload_n 2, 1) := by decide +kernel
theorem dX3_go_43 : decode cX3_go 43 = .ok (.iconst 1, 1) := by decide +kernel
theorem dX3_go_44 : decode cX3_go 44 = .ok (.putfield 92, 3) := by decide +kernel
theorem dX3_go_47 : decode cX3_go 47 = .ok (.aload_n 2, 1) := by decide +kernel
theorem dX3_go_48 : decode cX3_go 48 = .ok (.getfield 116, 3) := by decide +kernel
theorem dX3_go_51 : decode cX3_go 51 = .ok (.ireturn, 1) := by decide +kernel
set_option maxRecDepth 20000 in
theorem ggX3_launch_X3_isWithin : GoodIn wsX3_launch wsX3_isWithin := goodIn_r _ [10] (by decide +kernel) (by decide +kernel)
set_option maxRecDepth 20000 in
theorem gX3_launch_X3_isWithin : GoodIn wsX3_launch (va_wsS RX3 58 yX3_isWithin wsX3_isWithin) := goodIn_app (goodIn_of _ (by decide +kernel)) ggX3_launch_X3_isWithin
theorem dX3_launch_0 : decode cX3_launch 0 = .ok (.iload_n 1, 1) := by decide +kernel
theorem dX3_launch_1 : decode cX3_launch 1 = .ok (.bipush 100, 2) := by decide +kernel
theorem dX3_launch_3 : decode cX3_launch 3 = .ok (.sipush 900, 3) := by decide +kernel
theorem dX3_launch_6 : decode cX3_launch 6 = .ok (.invokestatic 58, 3) := by decide +kernel
theorem dX3_launch_9 : decode cX3_launch 9 = .ok (.ifCond .ne 13, 3) := by decide +kernel
theorem dX3_launch_12 : decode cX3_launch 12 = .ok (.new 62, 3) := by decide +kernel
theorem dX3_launch_15 : decode cX3_launch 15 = .ok (.dup, 1) := by decide +kernel
theorem dX3_launch_16 : decode cX3_launch 16 = .ok (.ldc 119, 2) := by decide +kernel
theorem dX3_launch_18 : decode cX3_launch 18 = .ok (.invokespecial 66, 3) := by decide +kernel
theorem dX3_launch_21 : decode cX3_launch 21 = .ok (.athrow, 1) := by decide +kernel
theorem dX3_launch_22 : decode cX3_launch 22 = .ok (.aload_n 0, 1) := by decide +kernel
theorem dX3_launch_23 : decode cX3_launch 23 = .ok (.getfield 121, 3) := by decide +kernel
theorem dX3_launch_26 : decode cX3_launch 26 = .ok (.iconst 4, 1) := by decide +kernel
theorem dX3_launch_27 : decode cX3_launch 27 = .ok (.if_icmp .lt 13, 3) := by decide +kernel
theorem dX3_launch_30 : decode cX3_launch 30 = .ok (.new 79, 3) := by decide +kernel
theorem dX3_launch_33 : decode cX3_launch 33 = .ok (.dup, 1) := by decide +kernel
theorem dX3_launch_34 : decode cX3_launch 34 = .ok (.ldc 124, 2) := by decide +kernel
theorem dX3_launch_36 : decode cX3_launch 36 = .ok (.invokespecial 83, 3) := by decide +kernel
theorem dX3_launch_39 : decode cX3_launch 39 = .ok (.athrow, 1) := by decide +kernel
theorem dX3_launch_40 : decode cX3_launch 40 = .ok (.aload_n 0, 1) := by decide +kernel
theorem dX3_launch_41 : decode cX3_launch 41 = .ok (.getfield 27, 3) := by decide +kernel
theorem dX3_launch_44 : decode cX3_launch 44 = .ok (.aload_n 0, 1) := by decide +kernel
theorem dX3_launch_45 : decode cX3_launch 45 = .ok (.getfield 121, 3) := by decide +kernel
theorem dX3_launch_48 : decode cX3_launch 48 = .ok (.aaload, 1) := by decide +kernel
theorem dX3_launch_49 : decode cX3_launch 49 = .ok (.iload_n 1, 1) := by decide +kernel
theorem dX3_launch_50 : decode cX3_launch 50 = .ok (.putfield 126, 3) := by decide +kernel
theorem dX3_launch_53 : decode cX3_launch 53 = .ok (.aload_n 0, 1) := by decide +kernel
theorem dX3_launch_54 : decode cX3_launch 54 = .ok (.dup, 1) := by decide +kernel
theorem dX3_launch_55 : decode cX3_launch 55 = .ok (.getfield 121, 3) := by decide +kernel
theorem dX3_launch_58 : decode cX3_launch 58 = .ok (.iconst 1, 1) := by decide +kernel
theorem dX3_launch_59 : decode cX3_launch 59 = .ok (.iadd, 1) := by decide +kernel
theorem dX3_launch_60 : decode cX3_launch 60 = .ok (.putfield 121, 3) := by decide +kernel
theorem dX3_launch_63 : decode cX3_launch 63 = .ok (.aload_n 0, 1) := by decide +kernel
theorem dX3_launch_64 : decode cX3_launch 64 = .ok (.getfield 121, 3) := by decide +kernel
theorem dX3_launch_67 : decode cX3_launch 67 = .ok (.iconst 1, 1) := by decide +kernel
theorem dX3_launch_68 : decode cX3_launch 68 = .ok (.isub, 1) := by decide +kernel
theorem dX3_launch_69 : decode cX3_launch 69 = .ok (.ireturn, 1) := by decide +kernel
set_option maxRecDepth 20000 in
theorem ggX3_stow_X3_isBoat : GoodIn wsX3_stow wsX3_isBoat := goodIn_r _ [11, 12, 34, 35, 36, 37, 38, 39, 40, 41, 42, 43, 44, 45] (by decide +kernel) (by decide +kernel)
set_option maxRecDepth 20000 in
theorem gX3_stow_X3_isBoat : GoodIn wsX3_stow (wsV RX3 129 RX3 yX3_isBoat wsX3_isBoat) := goodIn_app (goodIn_of _ (by decide +kernel)) ggX3_stow_X3_isBoat
set_option maxRecDepth 20000 in
theorem ggX3_stow_X3_isKind : GoodIn wsX3_stow wsX3_isKind := goodIn_r _ [15, 16, 17, 10, 18] (by decide +kernel) (by decide +kernel)
set_option maxRecDepth 20000 in
theorem gX3_stow_X3_isKind : GoodIn wsX3_stow (va_wsS RX3 134 yX3_isKind wsX3_isKind) := goodIn_app (goodIn_of _ (by decide +kernel)) ggX3_stow_X3_isKind
set_option maxRecDepth 20000 in
theorem ggX3_stow_X3_stowedWeight : GoodIn wsX3_stow wsX3_stowedWeight := goodIn_r _ [21] (by decide +kernel) (by decide +kernel)
set_option maxRecDepth 20000 in
theorem gX3_stow_X3_stowedWeight : GoodIn wsX3_stow (va_wsS RX3 139 yX3_stowedWeight wsX3_stowedWeight) := goodIn_app (goodIn_of _ (by decide +kernel)) ggX3_stow_X3_stowedWeight
set_option maxRecDepth 20000 in
theorem ggX3_stow_X0_room : GoodIn wsX3_stow wsX0_room := goodIn_r _ [26, 27, 28, 29, 48, 49, 50] (by decide +kernel) (by decide +kernel)
set_option maxRecDepth 20000 in
theorem gX3_stow_X0_room : GoodIn wsX3_stow (wsV RX3 147 RX0 yX0_room wsX0_room) := goodIn_app (goodIn_of _ (by decide +kernel)) ggX3_stow_X0_room
set_option maxRecDepth 20000 in
theorem ggX3_stow_X0_trim : GoodIn wsX3_stow wsX0_trim := goodIn_r _ [33, 28, 29, 48, 49, 50] (by decide +kernel) (by decide +kernel)
set_option maxRecDepth 20000 in
theorem gX3_stow_X0_trim : GoodIn wsX3_stow (wsV RX3 159 RX0 yX0_trim wsX0_trim) := goodIn_app (goodIn_of _ (by decide +kernel)) ggX3_stow_X0_trim
theorem dX3_stow_0 : decode cX3_stow 0 = .ok (.aload_n 0, 1) := by decide +kernel
theorem dX3_stow_1 : decode cX3_stow 1 = .ok (.iload_n 1, 1) := by decide +kernel
theorem dX3_stow_2 : decode cX3_stow 2 = .ok (.invokevirtual 129, 3) := by decide +kernel
theorem dX3_stow_5 : decode cX3_stow 5 = .ok (.ifCond .ne 13, 3) := by decide +kernel
theorem dX3_stow_8 : decode cX3_stow 8 = .ok (.new 51, 3) := by decide +kernel
theorem dX3_stow_11 : decode cX3_stow 11 = .ok (.dup, 1) := by decide +kernel
theorem dX3_stow_12 : decode cX3_stow 12 = .ok (.ldc 132, 2) := by decide +kernel
theorem dX3_stow_14 : decode cX3_stow 14 = .ok (.invokespecial 55, 3) := by decide +kernel
theorem dX3_stow_17 : decode cX3_stow 17 = .ok (.athrow, 1) := by decide +kernel
theorem dX3_stow_18 : decode cX3_stow 18 = .ok (.iload_n 2, 1) := by decide +kernel
theorem dX3_stow_19 : decode cX3_stow 19 = .ok (.invokestatic 134, 3) := by decide +kernel
theorem dX3_stow_22 : decode cX3_stow 22 = .ok (.ifCond .ne 13, 3) := by decide +kernel
theorem dX3_stow_25 : decode cX3_stow 25 = .ok (.new 51, 3) := by decide +kernel
theorem dX3_stow_28 : decode cX3_stow 28 = .ok (.dup, 1) := by decide +kernel
theorem dX3_stow_29 : decode cX3_stow 29 = .ok (.ldc 137, 2) := by decide +kernel
theorem dX3_stow_31 : decode cX3_stow 31 = .ok (.invokespecial 55, 3) := by decide +kernel
theorem dX3_stow_34 : decode cX3_stow 34 = .ok (.athrow, 1) := by decide +kernel
theorem dX3_stow_35 : decode cX3_stow 35 = .ok (.aload_n 0, 1) := by decide +kernel
theorem dX3_stow_36 : decode cX3_stow 36 = .ok (.getfield 27, 3) := by decide +kernel
theorem dX3_stow_39 : decode cX3_stow 39 = .ok (.iload_n 1, 1) := by decide +kernel
theorem dX3_stow_40 : decode cX3_stow 40 = .ok (.aaload, 1) := by decide +kernel
theorem dX3_stow_41 : decode cX3_stow 41 = .ok (.astore 4, 2) := by decide +kernel
theorem dX3_stow_43 : decode cX3_stow 43 = .ok (.iload_n 2, 1) := by decide +kernel
theorem dX3_stow_44 : decode cX3_stow 44 = .ok (.invokestatic 139, 3) := by decide +kernel
theorem dX3_stow_47 : decode cX3_stow 47 = .ok (.istore 5, 2) := by decide +kernel
theorem dX3_stow_49 : decode cX3_stow 49 = .ok (.aload_n 0, 1) := by decide +kernel
theorem dX3_stow_50 : decode cX3_stow 50 = .ok (.getfield 34, 3) := by decide +kernel
theorem dX3_stow_53 : decode cX3_stow 53 = .ok (.getfield 142, 3) := by decide +kernel
theorem dX3_stow_56 : decode cX3_stow 56 = .ok (.iload_n 2, 1) := by decide +kernel
theorem dX3_stow_57 : decode cX3_stow 57 = .ok (.iaload, 1) := by decide +kernel
theorem dX3_stow_58 : decode cX3_stow 58 = .ok (.iconst 1, 1) := by decide +kernel
theorem dX3_stow_59 : decode cX3_stow 59 = .ok (.if_icmp .ge 13, 3) := by decide +kernel
theorem dX3_stow_62 : decode cX3_stow 62 = .ok (.new 79, 3) := by decide +kernel
theorem dX3_stow_65 : decode cX3_stow 65 = .ok (.dup, 1) := by decide +kernel
theorem dX3_stow_66 : decode cX3_stow 66 = .ok (.ldc 145, 2) := by decide +kernel
theorem dX3_stow_68 : decode cX3_stow 68 = .ok (.invokespecial 83, 3) := by decide +kernel
theorem dX3_stow_71 : decode cX3_stow 71 = .ok (.athrow, 1) := by decide +kernel
theorem dX3_stow_72 : decode cX3_stow 72 = .ok (.iload 5, 2) := by decide +kernel
theorem dX3_stow_74 : decode cX3_stow 74 = .ok (.aload 4, 2) := by decide +kernel
theorem dX3_stow_76 : decode cX3_stow 76 = .ok (.invokevirtual 147, 3) := by decide +kernel
theorem dX3_stow_79 : decode cX3_stow 79 = .ok (.if_icmp .le 13, 3) := by decide +kernel
theorem dX3_stow_82 : decode cX3_stow 82 = .ok (.new 79, 3) := by decide +kernel
theorem dX3_stow_85 : decode cX3_stow 85 = .ok (.dup, 1) := by decide +kernel
theorem dX3_stow_86 : decode cX3_stow 86 = .ok (.ldc 151, 2) := by decide +kernel
theorem dX3_stow_88 : decode cX3_stow 88 = .ok (.invokespecial 83, 3) := by decide +kernel
theorem dX3_stow_91 : decode cX3_stow 91 = .ok (.athrow, 1) := by decide +kernel
theorem dX3_stow_92 : decode cX3_stow 92 = .ok (.aload_n 0, 1) := by decide +kernel
theorem dX3_stow_93 : decode cX3_stow 93 = .ok (.getfield 34, 3) := by decide +kernel
theorem dX3_stow_96 : decode cX3_stow 96 = .ok (.getfield 142, 3) := by decide +kernel
theorem dX3_stow_99 : decode cX3_stow 99 = .ok (.iload_n 2, 1) := by decide +kernel
theorem dX3_stow_100 : decode cX3_stow 100 = .ok (.dup2, 1) := by decide +kernel
theorem dX3_stow_101 : decode cX3_stow 101 = .ok (.iaload, 1) := by decide +kernel
theorem dX3_stow_102 : decode cX3_stow 102 = .ok (.iconst 1, 1) := by decide +kernel
theorem dX3_stow_103 : decode cX3_stow 103 = .ok (.isub, 1) := by decide +kernel
theorem dX3_stow_104 : decode cX3_stow 104 = .ok (.iastore, 1) := by decide +kernel
theorem dX3_stow_105 : decode cX3_stow 105 = .ok (.iload_n 3, 1) := by decide +kernel
theorem dX3_stow_106 : decode cX3_stow 106 = .ok (.ifCond .eq 18, 3) := by decide +kernel
theorem dX3_stow_109 : decode cX3_stow 109 = .ok (.aload 4, 2) := by decide +kernel
theorem dX3_stow_111 : decode cX3_stow 111 = .ok (.dup, 1) := by decide +kernel
theorem dX3_stow_112 : decode cX3_stow 112 = .ok (.getfield 153, 3) := by decide +kernel
theorem dX3_stow_115 : decode cX3_stow 115 = .ok (.iload 5, 2) := by decide +kernel
theorem dX3_stow_117 : decode cX3_stow 117 = .ok (.iadd, 1) := by decide +kernel
theorem dX3_stow_118 : decode cX3_stow 118 = .ok (.putfield 153, 3) := by decide +kernel
theorem dX3_stow_121 : decode cX3_stow 121 = .ok (.goto 15, 3) := by decide +kernel
theorem dX3_stow_124 : decode cX3_stow 124 = .ok (.aload 4, 2) := by decide +kernel
theorem dX3_stow_126 : decode cX3_stow 126 = .ok (.dup, 1) := by decide +kernel
theorem dX3_stow_127 : decode cX3_stow 127 = .ok (.getfield 156, 3) := by decide +kernel
theorem dX3_stow_130 : decode cX3_stow 130 = .ok (.iload 5, 2) := by decide +kernel
theorem dX3_stow_132 : decode cX3_stow 132 = .ok (.iadd, 1) := by decide +kernel
theorem dX3_stow_133 : decode cX3_stow 133 = .ok (.putfield 156, 3) := by decide +kernel
theorem dX3_stow_136 : decode cX3_stow 136 = .ok (.aload 4, 2) := by decide +kernel
theorem dX3_stow_138 : decode cX3_stow 138 = .ok (.invokevirtual 159, 3) := by decide +kernel
theorem dX3_stow_141 : decode cX3_stow 141 = .ok (.ireturn, 1) := by decide +kernel
set_option maxRecDepth 20000 in
theorem ggX3_sail_X3_isBoat : GoodIn wsX3_sail wsX3_isBoat := goodIn_r _ [11, 12, 40, 41, 42, 43, 44, 45, 46, 47, 48, 49, 50, 51] (by decide +kernel) (by decide +kernel)
set_option maxRecDepth 20000 in
theorem gX3_sail_X3_isBoat : GoodIn wsX3_sail (wsV RX3 129 RX3 yX3_isBoat wsX3_isBoat) := goodIn_app (goodIn_of _ (by decide +kernel)) ggX3_sail_X3_isBoat
set_option maxRecDepth 20000 in
theorem ggX3_sail_X0_canSail : GoodIn wsX3_sail wsX0_canSail := goodIn_r _ [17, 18, 19, 20, 16, 21, 22, 23, 24, 10, 25, 26, 27, 28, 29, 30, 31, 32, 33, 34, 35, 52, 53, 54] (by decide +kernel) (by decide +kernel)
set_option maxRecDepth 20000 in
theorem gX3_sail_X0_canSail : GoodIn wsX3_sail (wsV RX3 162 RX0 yX0_canSail wsX0_canSail) := goodIn_app (goodIn_of _ (by decide +kernel)) ggX3_sail_X0_canSail
set_option maxRecDepth 20000 in
theorem ggX3_sail_X0_worth : GoodIn wsX3_sail wsX0_worth := goodIn_r _ [39, 22, 23, 52, 53, 54] (by decide +kernel) (by decide +kernel)
set_option maxRecDepth 20000 in
theorem gX3_sail_X0_worth : GoodIn wsX3_sail (wsV RX3 167 RX0 yX0_worth wsX0_worth) := goodIn_app (goodIn_of _ (by decide +kernel)) ggX3_sail_X0_worth
theorem dX3_sail_0 : decode cX3_sail 0 = .ok (.aload_n 0, 1) := by decide +kernel
theorem dX3_sail_1 : decode cX3_sail 1 = .ok (.iload_n 1, 1) := by decide +kernel
theorem dX3_sail_2 : decode cX3_sail 2 = .ok (.invokevirtual 129, 3) := by decide +kernel
theorem dX3_sail_5 : decode cX3_sail 5 = .ok (.ifCond .ne 13, 3) := by decide +kernel
theorem dX3_sail_8 : decode cX3_sail 8 = .ok (.new 51, 3) := by decide +kernel
theorem dX3_sail_11 : decode cX3_sail 11 = .ok (.dup, 1) := by decide +kernel
theorem dX3_sail_12 : decode cX3_sail 12 = .ok (.ldc 132, 2) := by decide +kernel
theorem dX3_sail_14 : decode cX3_sail 14 = .ok (.invokespecial 55, 3) := by decide +kernel
theorem dX3_sail_17 : decode cX3_sail 17 = .ok (.athrow, 1) := by decide +kernel
theorem dX3_sail_18 : decode cX3_sail 18 = .ok (.aload_n 0, 1) := by decide +kernel
theorem dX3_sail_19 : decode cX3_sail 19 = .ok (.getfield 27, 3) := by decide +kernel
theorem dX3_sail_22 : decode cX3_sail 22 = .ok (.iload_n 1, 1) := by decide +kernel
theorem dX3_sail_23 : decode cX3_sail 23 = .ok (.aaload, 1) := by decide +kernel
theorem dX3_sail_24 : decode cX3_sail 24 = .ok (.astore_n 2, 1) := by decide +kernel
theorem dX3_sail_25 : decode cX3_sail 25 = .ok (.aload_n 2, 1) := by decide +kernel
theorem dX3_sail_26 : decode cX3_sail 26 = .ok (.invokevirtual 162, 3) := by decide +kernel
theorem dX3_sail_29 : decode cX3_sail 29 = .ok (.ifCond .ne 13, 3) := by decide +kernel
theorem dX3_sail_32 : decode cX3_sail 32 = .ok (.new 79, 3) := by decide +kernel
theorem dX3_sail_35 : decode cX3_sail 35 = .ok (.dup, 1) := by decide +kernel
theorem dX3_sail_36 : decode cX3_sail 36 = .ok (.ldc 165, 2) := by decide +kernel
theorem dX3_sail_38 : decode cX3_sail 38 = .ok (.invokespecial 83, 3) := by decide +kernel
theorem dX3_sail_41 : decode cX3_sail 41 = .ok (.athrow, 1) := by decide +kernel
theorem dX3_sail_42 : decode cX3_sail 42 = .ok (.aload_n 2, 1) := by decide +kernel
theorem dX3_sail_43 : decode cX3_sail 43 = .ok (.invokevirtual 167, 3) := by decide +kernel
theorem dX3_sail_46 : decode cX3_sail 46 = .ok (.istore_n 3, 1) := by decide +kernel
theorem dX3_sail_47 : decode cX3_sail 47 = .ok (.aload_n 2, 1) := by decide +kernel
theorem dX3_sail_48 : decode cX3_sail 48 = .ok (.iconst 0, 1) := by decide +kernel
theorem dX3_sail_49 : decode cX3_sail 49 = .ok (.putfield 153, 3) := by decide +kernel
theorem dX3_sail_52 : decode cX3_sail 52 = .ok (.aload_n 2, 1) := by decide +kernel
theorem dX3_sail_53 : decode cX3_sail 53 = .ok (.iconst 0, 1) := by decide +kernel
theorem dX3_sail_54 : decode cX3_sail 54 = .ok (.putfield 156, 3) := by decide +kernel
theorem dX3_sail_57 : decode cX3_sail 57 = .ok (.aload_n 0, 1) := by decide +kernel
theorem dX3_sail_58 : decode cX3_sail 58 = .ok (.dup, 1) := by decide +kernel
theorem dX3_sail_59 : decode cX3_sail 59 = .ok (.getfield 170, 3) := by decide +kernel
theorem dX3_sail_62 : decode cX3_sail 62 = .ok (.iload_n 3, 1) := by decide +kernel
theorem dX3_sail_63 : decode cX3_sail 63 = .ok (.iadd, 1) := by decide +kernel
theorem dX3_sail_64 : decode cX3_sail 64 = .ok (.putfield 170, 3) := by decide +kernel
theorem dX3_sail_67 : decode cX3_sail 67 = .ok (.iload_n 3, 1) := by decide +kernel
theorem dX3_sail_68 : decode cX3_sail 68 = .ok (.ireturn, 1) := by decide +kernel
set_option maxRecDepth 20000 in
theorem ggX3_layer_X3_isLayer : GoodIn wsX3_layer wsX3_isLayer := goodIn_r _ [8, 9, 10, 7, 11] (by decide +kernel) (by decide +kernel)
set_option maxRecDepth 20000 in
theorem gX3_layer_X3_isLayer : GoodIn wsX3_layer (va_wsS RX3 47 yX3_isLayer wsX3_isLayer) := goodIn_app (goodIn_of _ (by decide +kernel)) ggX3_layer_X3_isLayer
set_option maxRecDepth 20000 in
theorem ggX3_layer_X3_isWithin : GoodIn wsX3_layer wsX3_isWithin := goodIn_r _ [11] (by decide +kernel) (by decide +kernel)
set_option maxRecDepth 20000 in
theorem gX3_layer_X3_isWithin : GoodIn wsX3_layer (va_wsS RX3 58 yX3_isWithin wsX3_isWithin) := goodIn_app (goodIn_of _ (by decide +kernel)) ggX3_layer_X3_isWithin
set_option maxRecDepth 20000 in
theorem ggX3_layer_X3_sackWeight : GoodIn wsX3_layer wsX3_sackWeight := goodIn_r _ [15, 4, 19, 20, 21, 22, 23, 24, 25, 26, 27, 28, 29, 30] (by decide +kernel) (by decide +kernel)
set_option maxRecDepth 20000 in
theorem gX3_layer_X3_sackWeight : GoodIn wsX3_layer (wsV RX3 105 RX3 yX3_sackWeight wsX3_sackWeight) := goodIn_app (goodIn_of _ (by decide +kernel)) ggX3_layer_X3_sackWeight
set_option maxRecDepth 20000 in
theorem ggX3_layer_X3_kindOf : GoodIn wsX3_layer wsX3_kindOf := goodIn_r _ [18] (by decide +kernel) (by decide +kernel)
set_option maxRecDepth 20000 in
theorem gX3_layer_X3_kindOf : GoodIn wsX3_layer (va_wsS RX3 113 yX3_kindOf wsX3_kindOf) := goodIn_app (goodIn_of _ (by decide +kernel)) ggX3_layer_X3_kindOf
theorem dX3_layer_0 : decode cX3_layer 0 = .ok (.iload_n 1, 1) := by decide +kernel
theorem dX3_layer_1 : decode cX3_layer 1 = .ok (.invokestatic 47, 3) := by decide +kernel
theorem dX3_layer_4 : decode cX3_layer 4 = .ok (.ifCond .ne 13, 3) := by decide +kernel
theorem dX3_layer_7 : decode cX3_layer 7 = .ok (.new 51, 3) := by decide +kernel
theorem dX3_layer_10 : decode cX3_layer 10 = .ok (.dup, 1) := by decide +kernel
theorem dX3_layer_11 : decode cX3_layer 11 = .ok (.ldc 53, 2) := by decide +kernel
theorem dX3_layer_13 : decode cX3_layer 13 = .ok (.invokespecial 55, 3) := by decide +kernel
theorem dX3_layer_16 : decode cX3_layer 16 = .ok (.athrow, 1) := by decide +kernel
theorem dX3_layer_17 : decode cX3_layer 17 = .ok (.iload_n 2, 1) := by decide +kernel
theorem dX3_layer_18 : decode cX3_layer 18 = .ok (.iconst 0, 1) := by decide +kernel
theorem dX3_layer_19 : decode cX3_layer 19 = .ok (.iconst 3, 1) := by decide +kernel
theorem dX3_layer_20 : decode cX3_layer 20 = .ok (.invokestatic 58, 3) := by decide +kernel
theorem dX3_layer_23 : decode cX3_layer 23 = .ok (.ifCond .ne 13, 3) := by decide +kernel
theorem dX3_layer_26 : decode cX3_layer 26 = .ok (.new 51, 3) := by decide +kernel
theorem dX3_layer_29 : decode cX3_layer 29 = .ok (.dup, 1) := by decide +kernel
theorem dX3_layer_30 : decode cX3_layer 30 = .ok (.ldc 173, 2) := by decide +kernel
theorem dX3_layer_32 : decode cX3_layer 32 = .ok (.invokespecial 55, 3) := by decide +kernel
theorem dX3_layer_35 : decode cX3_layer 35 = .ok (.athrow, 1) := by decide +kernel
theorem dX3_layer_36 : decode cX3_layer 36 = .ok (.iload_n 2, 1) := by decide +kernel
theorem dX3_layer_37 : decode cX3_layer 37 = .ok (.tableswitch 50 0 2 #[27, 34, 41], 27) := by decide +kernel
theorem dX3_layer_64 : decode cX3_layer 64 = .ok (.aload_n 0, 1) := by decide +kernel
theorem dX3_layer_65 : decode cX3_layer 65 = .ok (.getfield 9, 3) := by decide +kernel
theorem dX3_layer_68 : decode cX3_layer 68 = .ok (.iload_n 1, 1) := by decide +kernel
theorem dX3_layer_69 : decode cX3_layer 69 = .ok (.iaload, 1) := by decide +kernel
theorem dX3_layer_70 : decode cX3_layer 70 = .ok (.ireturn, 1) := by decide +kernel
theorem dX3_layer_71 : decode cX3_layer 71 = .ok (.aload_n 0, 1) := by decide +kernel
theorem dX3_layer_72 : decode cX3_layer 72 = .ok (.getfield 13, 3) := by decide +kernel
theorem dX3_layer_75 : decode cX3_layer 75 = .ok (.iload_n 1, 1) := by decide +kernel
theorem dX3_layer_76 : decode cX3_layer 76 = .ok (.iaload, 1) := by decide +kernel
theorem dX3_layer_77 : decode cX3_layer 77 = .ok (.ireturn, 1) := by decide +kernel
theorem dX3_layer_78 : decode cX3_layer 78 = .ok (.aload_n 0, 1) := by decide +kernel
theorem dX3_layer_79 : decode cX3_layer 79 = .ok (.iload_n 1, 1) := by decide +kernel
theorem dX3_layer_80 : decode cX3_layer 80 = .ok (.invokevirtual 105, 3) := by decide +kernel
theorem dX3_layer_83 : decode cX3_layer 83 = .ok (.invokestatic 113, 3) := by decide +kernel
theorem dX3_layer_86 : decode cX3_layer 86 = .ok (.ireturn, 1) := by decide +kernel
theorem dX3_layer_87 : decode cX3_layer 87 = .ok (.aload_n 0, 1) := by decide +kernel
theorem dX3_layer_88 : decode cX3_layer 88 = .ok (.getfield 9, 3) := by decide +kernel
theorem dX3_layer_91 : decode cX3_layer 91 = .ok (.iload_n 1, 1) := by decide +kernel
theorem dX3_layer_92 : decode cX3_layer 92 = .ok (.iaload, 1) := by decide +kernel
theorem dX3_layer_93 : decode cX3_layer 93 = .ok (.bipush 10, 2) := by decide +kernel
theorem dX3_layer_95 : decode cX3_layer 95 = .ok (.idiv, 1) := by decide +kernel
theorem dX3_layer_96 : decode cX3_layer 96 = .ok (.ireturn, 1) := by decide +kernel
set_option maxRecDepth 20000 in
theorem ggX3_told_X3_isSledge : GoodIn wsX3_told wsX3_isSledge := goodIn_r _ [8, 9, 26, 27, 28, 29, 30, 31, 32, 33, 34, 35, 36, 37] (by decide +kernel) (by decide +kernel)
set_option maxRecDepth 20000 in
theorem gX3_told_X3_isSledge : GoodIn wsX3_told (wsV RX3 87 RX3 yX3_isSledge wsX3_isSledge) := goodIn_app (goodIn_of _ (by decide +kernel)) ggX3_told_X3_isSledge
set_option maxRecDepth 20000 in
theorem ggX3_told_X3_isWithin : GoodIn wsX3_told wsX3_isWithin := goodIn_r _ [12] (by decide +kernel) (by decide +kernel)
set_option maxRecDepth 20000 in
theorem gX3_told_X3_isWithin : GoodIn wsX3_told (va_wsS RX3 58 yX3_isWithin wsX3_isWithin) := goodIn_app (goodIn_of _ (by decide +kernel)) ggX3_told_X3_isWithin
set_option maxRecDepth 20000 in
theorem ggX3_told_X2_weightAboard : GoodIn wsX3_told wsX2_weightAboard := goodIn_r _ [17, 18, 19, 38, 39, 40, 41, 42] (by decide +kernel) (by decide +kernel)
set_option maxRecDepth 20000 in
theorem gX3_told_X2_weightAboard : GoodIn wsX3_told (wsV RX3 180 RX2 yX2_weightAboard wsX2_weightAboard) := goodIn_app (goodIn_of _ (by decide +kernel)) ggX3_told_X2_weightAboard
set_option maxRecDepth 20000 in
theorem ggX3_told_X2_lastKind : GoodIn wsX3_told wsX2_lastKind := goodIn_r _ [23, 18, 19, 24, 7, 25, 38, 39, 40, 41, 42] (by decide +kernel) (by decide +kernel)
set_option maxRecDepth 20000 in
theorem gX3_told_X2_lastKind : GoodIn wsX3_told (wsV RX3 183 RX2 yX2_lastKind wsX2_lastKind) := goodIn_app (goodIn_of _ (by decide +kernel)) ggX3_told_X2_lastKind
theorem dX3_told_0 : decode cX3_told 0 = .ok (.aload_n 0, 1) := by decide +kernel
theorem dX3_told_1 : decode cX3_told 1 = .ok (.iload_n 1, 1) := by decide +kernel
theorem dX3_told_2 : decode cX3_told 2 = .ok (.invokevirtual 87, 3) := by decide +kernel
theorem dX3_told_5 : decode cX3_told 5 = .ok (.ifCond .ne 13, 3) := by decide +kernel
theorem dX3_told_8 : decode cX3_told 8 = .ok (.new 51, 3) := by decide +kernel
theorem dX3_told_11 : decode cX3_told 11 = .ok (.dup, 1) := by decide +kernel
theorem dX3_told_12 : decode cX3_told 12 = .ok (.ldc 90, 2) := by decide +kernel
theorem dX3_told_14 : decode cX3_told 14 = .ok (.invokespecial 55, 3) := by decide +kernel
theorem dX3_told_17 : decode cX3_told 17 = .ok (.athrow, 1) := by decide +kernel
theorem dX3_told_18 : decode cX3_told 18 = .ok (.iload_n 2, 1) := by decide +kernel
theorem dX3_told_19 : decode cX3_told 19 = .ok (.iconst 0, 1) := by decide +kernel
theorem dX3_told_20 : decode cX3_told 20 = .ok (.iconst 5, 1) := by decide +kernel
theorem dX3_told_21 : decode cX3_told 21 = .ok (.invokestatic 58, 3) := by decide +kernel
theorem dX3_told_24 : decode cX3_told 24 = .ok (.ifCond .ne 13, 3) := by decide +kernel
theorem dX3_told_27 : decode cX3_told 27 = .ok (.new 51, 3) := by decide +kernel
theorem dX3_told_30 : decode cX3_told 30 = .ok (.dup, 1) := by decide +kernel
theorem dX3_told_31 : decode cX3_told 31 = .ok (.ldc 175, 2) := by decide +kernel
theorem dX3_told_33 : decode cX3_told 33 = .ok (.invokespecial 55, 3) := by decide +kernel
theorem dX3_told_36 : decode cX3_told 36 = .ok (.athrow, 1) := by decide +kernel
theorem dX3_told_37 : decode cX3_told 37 = .ok (.aload_n 0, 1) := by decide +kernel
theorem dX3_told_38 : decode cX3_told 38 = .ok (.getfield 21, 3) := by decide +kernel
theorem dX3_told_41 : decode cX3_told 41 = .ok (.iload_n 1, 1) := by decide +kernel
theorem dX3_told_42 : decode cX3_told 42 = .ok (.aaload, 1) := by decide +kernel
theorem dX3_told_43 : decode cX3_told 43 = .ok (.astore_n 3, 1) := by decide +kernel
theorem dX3_told_44 : decode cX3_told 44 = .ok (.iload_n 2, 1) := by decide +kernel
theorem dX3_told_45 : decode cX3_told 45 = .ok (.tableswitch 60 0 4 #[35, 40, 45, 50, 55], 35) := by decide +kernel
theorem dX3_told_80 : decode cX3_told 80 = .ok (.aload_n 3, 1) := by decide +kernel
theorem dX3_told_81 : decode cX3_told 81 = .ok (.getfield 84, 3) := by decide +kernel
theorem dX3_told_84 : decode cX3_told 84 = .ok (.ireturn, 1) := by decide +kernel
theorem dX3_told_85 : decode cX3_told 85 = .ok (.aload_n 3, 1) := by decide +kernel
theorem dX3_told_86 : decode cX3_told 86 = .ok (.getfield 116, 3) := by decide +kernel
theorem dX3_told_89 : decode cX3_told 89 = .ok (.ireturn, 1) := by decide +kernel
theorem dX3_told_90 : decode cX3_told 90 = .ok (.aload_n 3, 1) := by decide +kernel
theorem dX3_told_91 : decode cX3_told 91 = .ok (.getfield 177, 3) := by decide +kernel
theorem dX3_told_94 : decode cX3_told 94 = .ok (.ireturn, 1) := by decide +kernel
theorem dX3_told_95 : decode cX3_told 95 = .ok (.aload_n 3, 1) := by decide +kernel
theorem dX3_told_96 : decode cX3_told 96 = .ok (.getfield 92, 3) := by decide +kernel
theorem dX3_told_99 : decode cX3_told 99 = .ok (.ireturn, 1) := by decide +kernel
theorem dX3_told_100 : decode cX3_told 100 = .ok (.aload_n 3, 1) := by decide +kernel
theorem dX3_told_101 : decode cX3_told 101 = .ok (.invokevirtual 180, 3) := by decide +kernel
theorem dX3_told_104 : decode cX3_told 104 = .ok (.ireturn, 1) := by decide +kernel
theorem dX3_told_105 : decode cX3_told 105 = .ok (.aload_n 3, 1) := by decide +kernel
theorem dX3_told_106 : decode cX3_told 106 = .ok (.invokevirtual 183, 3) := by decide +kernel
theorem dX3_told_109 : decode cX3_told 109 = .ok (.ireturn, 1) := by decide +kernel
set_option maxRecDepth 20000 in
theorem ggX3_boat_X3_isBoat : GoodIn wsX3_boat wsX3_isBoat := goodIn_r _ [8, 9, 41, 42, 43, 44, 45, 46, 47, 48, 49, 50, 51, 52] (by decide +kernel) (by decide +kernel)
set_option maxRecDepth 20000 in
theorem gX3_boat_X3_isBoat : GoodIn wsX3_boat (wsV RX3 129 RX3 yX3_isBoat wsX3_isBoat) := goodIn_app (goodIn_of _ (by decide +kernel)) ggX3_boat_X3_isBoat
set_option maxRecDepth 20000 in
theorem ggX3_boat_X3_isWithin : GoodIn wsX3_boat wsX3_isWithin := goodIn_r _ [12] (by decide +kernel) (by decide +kernel)
set_option maxRecDepth 20000 in
theorem gX3_boat_X3_isWithin : GoodIn wsX3_boat (va_wsS RX3 58 yX3_isWithin wsX3_isWithin) := goodIn_app (goodIn_of _ (by decide +kernel)) ggX3_boat_X3_isWithin
set_option maxRecDepth 20000 in
theorem ggX3_boat_X0_trim : GoodIn wsX3_boat wsX0_trim := goodIn_r _ [17, 18, 19, 53, 54, 55] (by decide +kernel) (by decide +kernel)
set_option maxRecDepth 20000 in
theorem gX3_boat_X0_trim : GoodIn wsX3_boat (wsV RX3 159 RX0 yX0_trim wsX0_trim) := goodIn_app (goodIn_of _ (by decide +kernel)) ggX3_boat_X0_trim
set_option maxRecDepth 20000 in
theorem ggX3_boat_X0_depth : GoodIn wsX3_boat wsX0_depth := goodIn_r _ [23, 18, 19, 24, 7, 25, 26, 27, 28, 29, 53, 54, 55] (by decide +kernel) (by decide +kernel)
set_option maxRecDepth 20000 in
theorem gX3_boat_X0_depth : GoodIn wsX3_boat (wsV RX3 188 RX0 yX0_depth wsX0_depth) := goodIn_app (goodIn_of _ (by decide +kernel)) ggX3_boat_X0_depth
set_option maxRecDepth 20000 in
theorem ggX3_boat_X0_canSail : GoodIn wsX3_boat wsX0_canSail := goodIn_r _ [33, 34, 21, 22, 16, 23, 18, 19, 24, 7, 25, 26, 27, 28, 29, 35, 14, 15, 17, 11, 12, 53, 54, 55] (by decide +kernel) (by decide +kernel)
set_option maxRecDepth 20000 in
theorem gX3_boat_X0_canSail : GoodIn wsX3_boat (wsV RX3 162 RX0 yX0_canSail wsX0_canSail) := goodIn_app (goodIn_of _ (by decide +kernel)) ggX3_boat_X0_canSail
set_option maxRecDepth 20000 in
theorem ggX3_boat_X0_room : GoodIn wsX3_boat wsX0_room := goodIn_r _ [39, 40, 18, 19, 53, 54, 55] (by decide +kernel) (by decide +kernel)
set_option maxRecDepth 20000 in
theorem gX3_boat_X0_room : GoodIn wsX3_boat (wsV RX3 147 RX0 yX0_room wsX0_room) := goodIn_app (goodIn_of _ (by decide +kernel)) ggX3_boat_X0_room
theorem dX3_boat_0 : decode cX3_boat 0 = .ok (.aload_n 0, 1) := by decide +kernel
theorem dX3_boat_1 : decode cX3_boat 1 = .ok (.iload_n 1, 1) := by decide +kernel
theorem dX3_boat_2 : decode cX3_boat 2 = .ok (.invokevirtual 129, 3) := by decide +kernel
theorem dX3_boat_5 : decode cX3_boat 5 = .ok (.ifCond .ne 13, 3) := by decide +kernel
theorem dX3_boat_8 : decode cX3_boat 8 = .ok (.new 51, 3) := by decide +kernel
theorem dX3_boat_11 : decode cX3_boat 11 = .ok (.dup, 1) := by decide +kernel
theorem dX3_boat_12 : decode cX3_boat 12 = .ok (.ldc 132, 2) := by decide +kernel
theorem dX3_boat_14 : decode cX3_boat 14 = .ok (.invokespecial 55, 3) := by decide +kernel
theorem dX3_boat_17 : decode cX3_boat 17 = .ok (.athrow, 1) := by decide +kernel
theorem dX3_boat_18 : decode cX3_boat 18 = .ok (.iload_n 2, 1) := by decide +kernel
theorem dX3_boat_19 : decode cX3_boat 19 = .ok (.iconst 0, 1) := by decide +kernel
theorem dX3_boat_20 : decode cX3_boat 20 = .ok (.bipush 6, 2) := by decide +kernel
theorem dX3_boat_22 : decode cX3_boat 22 = .ok (.invokestatic 58, 3) := by decide +kernel
theorem dX3_boat_25 : decode cX3_boat 25 = .ok (.ifCond .ne 13, 3) := by decide +kernel
theorem dX3_boat_28 : decode cX3_boat 28 = .ok (.new 51, 3) := by decide +kernel
theorem dX3_boat_31 : decode cX3_boat 31 = .ok (.dup, 1) := by decide +kernel
theorem dX3_boat_32 : decode cX3_boat 32 = .ok (.ldc 186, 2) := by decide +kernel
theorem dX3_boat_34 : decode cX3_boat 34 = .ok (.invokespecial 55, 3) := by decide +kernel
theorem dX3_boat_37 : decode cX3_boat 37 = .ok (.athrow, 1) := by decide +kernel
theorem dX3_boat_38 : decode cX3_boat 38 = .ok (.aload_n 0, 1) := by decide +kernel
theorem dX3_boat_39 : decode cX3_boat 39 = .ok (.getfield 27, 3) := by decide +kernel
theorem dX3_boat_42 : decode cX3_boat 42 = .ok (.iload_n 1, 1) := by decide +kernel
theorem dX3_boat_43 : decode cX3_boat 43 = .ok (.aaload, 1) := by decide +kernel
theorem dX3_boat_44 : decode cX3_boat 44 = .ok (.astore_n 3, 1) := by decide +kernel
theorem dX3_boat_45 : decode cX3_boat 45 = .ok (.iload_n 2, 1) := by decide +kernel
theorem dX3_boat_46 : decode cX3_boat 46 = .ok (.tableswitch 76 0 5 #[38, 43, 48, 53, 58, 63], 38) := by decide +kernel
theorem dX3_boat_84 : decode cX3_boat 84 = .ok (.aload_n 3, 1) := by decide +kernel
theorem dX3_boat_85 : decode cX3_boat 85 = .ok (.getfield 126, 3) := by decide +kernel
theorem dX3_boat_88 : decode cX3_boat 88 = .ok (.ireturn, 1) := by decide +kernel
theorem dX3_boat_89 : decode cX3_boat 89 = .ok (.aload_n 3, 1) := by decide +kernel
theorem dX3_boat_90 : decode cX3_boat 90 = .ok (.getfield 153, 3) := by decide +kernel
theorem dX3_boat_93 : decode cX3_boat 93 = .ok (.ireturn, 1) := by decide +kernel
theorem dX3_boat_94 : decode cX3_boat 94 = .ok (.aload_n 3, 1) := by decide +kernel
theorem dX3_boat_95 : decode cX3_boat 95 = .ok (.getfield 156, 3) := by decide +kernel
theorem dX3_boat_98 : decode cX3_boat 98 = .ok (.ireturn, 1) := by decide +kernel
theorem dX3_boat_99 : decode cX3_boat 99 = .ok (.aload_n 3, 1) := by decide +kernel
theorem dX3_boat_100 : decode cX3_boat 100 = .ok (.invokevirtual 159, 3) := by decide +kernel
theorem dX3_boat_103 : decode cX3_boat 103 = .ok (.ireturn, 1) := by decide +kernel
theorem dX3_boat_104 : decode cX3_boat 104 = .ok (.aload_n 3, 1) := by decide +kernel
theorem dX3_boat_105 : decode cX3_boat 105 = .ok (.invokevirtual 188, 3) := by decide +kernel
theorem dX3_boat_108 : decode cX3_boat 108 = .ok (.ireturn, 1) := by decide +kernel
theorem dX3_boat_109 : decode cX3_boat 109 = .ok (.aload_n 3, 1) := by decide +kernel
theorem dX3_boat_110 : decode cX3_boat 110 = .ok (.invokevirtual 162, 3) := by decide +kernel
theorem dX3_boat_113 : decode cX3_boat 113 = .ok (.ifCond .eq 7, 3) := by decide +kernel
theorem dX3_boat_116 : decode cX3_boat 116 = .ok (.iconst 1, 1) := by decide +kernel
theorem dX3_boat_117 : decode cX3_boat 117 = .ok (.goto 4, 3) := by decide +kernel
theorem dX3_boat_120 : decode cX3_boat 120 = .ok (.iconst 0, 1) := by decide +kernel
theorem dX3_boat_121 : decode cX3_boat 121 = .ok (.ireturn, 1) := by decide +kernel
theorem dX3_boat_122 : decode cX3_boat 122 = .ok (.aload_n 3, 1) := by decide +kernel
theorem dX3_boat_123 : decode cX3_boat 123 = .ok (.invokevirtual 147, 3) := by decide +kernel
theorem dX3_boat_126 : decode cX3_boat 126 = .ok (.ireturn, 1) := by decide +kernel
set_option maxRecDepth 20000 in
theorem ggX3_beach_X3_isKind : GoodIn wsX3_beach wsX3_isKind := goodIn_r _ [7, 8, 9, 6, 10] (by decide +kernel) (by decide +kernel)
set_option maxRecDepth 20000 in
theorem gX3_beach_X3_isKind : GoodIn wsX3_beach (va_wsS RX3 134 yX3_isKind wsX3_isKind) := goodIn_app (goodIn_of _ (by decide +kernel)) ggX3_beach_X3_isKind
theorem dX3_beach_0 : decode cX3_beach 0 = .ok (.iload_n 1, 1) := by decide +kernel
theorem dX3_beach_1 : decode cX3_beach 1 = .ok (.invokestatic 134, 3) := by decide +kernel
theorem dX3_beach_4 : decode cX3_beach 4 = .ok (.ifCond .ne 13, 3) := by decide +kernel
theorem dX3_beach_7 : decode cX3_beach 7 = .ok (.new 51, 3) := by decide +kernel
theorem dX3_beach_10 : decode cX3_beach 10 = .ok (.dup, 1) := by decide +kernel
theorem dX3_beach_11 : decode cX3_beach 11 = .ok (.ldc 137, 2) := by decide +kernel
theorem dX3_beach_13 : decode cX3_beach 13 = .ok (.invokespecial 55, 3) := by decide +kernel
theorem dX3_beach_16 : decode cX3_beach 16 = .ok (.athrow, 1) := by decide +kernel
theorem dX3_beach_17 : decode cX3_beach 17 = .ok (.aload_n 0, 1) := by decide +kernel
theorem dX3_beach_18 : decode cX3_beach 18 = .ok (.getfield 34, 3) := by decide +kernel
theorem dX3_beach_21 : decode cX3_beach 21 = .ok (.getfield 142, 3) := by decide +kernel
theorem dX3_beach_24 : decode cX3_beach 24 = .ok (.iload_n 1, 1) := by decide +kernel
theorem dX3_beach_25 : decode cX3_beach 25 = .ok (.iaload, 1) := by decide +kernel
theorem dX3_beach_26 : decode cX3_beach 26 = .ok (.ireturn, 1) := by decide +kernel
set_option maxRecDepth 20000 in
theorem ggX3_count_X3_isWithin : GoodIn wsX3_count wsX3_isWithin := goodIn_r _ [11] (by decide +kernel) (by decide +kernel)
set_option maxRecDepth 20000 in
theorem gX3_count_X3_isWithin : GoodIn wsX3_count (va_wsS RX3 58 yX3_isWithin wsX3_isWithin) := goodIn_app (goodIn_of _ (by decide +kernel)) ggX3_count_X3_isWithin
set_option maxRecDepth 20000 in
theorem ggX3_count_X3_gustAt : GoodIn wsX3_count wsX3_gustAt := goodIn_r _ [15, 16, 17, 18, 19, 20, 37, 38, 39, 40, 41, 42, 43, 44, 45, 46, 47, 48] (by decide +kernel) (by decide +kernel)
set_option maxRecDepth 20000 in
theorem gX3_count_X3_gustAt : GoodIn wsX3_count (wsV RX3 196 RX3 yX3_gustAt wsX3_gustAt) := goodIn_app (goodIn_of _ (by decide +kernel)) ggX3_count_X3_gustAt
set_option maxRecDepth 20000 in
theorem ggX3_count_X3_sacksAboard : GoodIn wsX3_count wsX3_sacksAboard := goodIn_r _ [24, 4, 25, 37, 38, 39, 40, 41, 42, 43, 44, 45, 46, 47, 48, 51, 52, 53, 54, 55] (by decide +kernel) (by decide +kernel)
set_option maxRecDepth 20000 in
theorem gX3_count_X3_sacksAboard : GoodIn wsX3_count (wsV RX3 199 RX3 yX3_sacksAboard wsX3_sacksAboard) := goodIn_app (goodIn_of _ (by decide +kernel)) ggX3_count_X3_sacksAboard
set_option maxRecDepth 20000 in
theorem ggX3_count_X1_allSacks : GoodIn wsX3_count wsX1_allSacks := goodIn_r _ [30, 31, 49, 50] (by decide +kernel) (by decide +kernel)
set_option maxRecDepth 20000 in
theorem gX3_count_X1_allSacks : GoodIn wsX3_count (wsV RX3 202 RX1 yX1_allSacks wsX1_allSacks) := goodIn_app (goodIn_of _ (by decide +kernel)) ggX3_count_X1_allSacks
set_option maxRecDepth 20000 in
theorem ggX3_count_X3_allStones : GoodIn wsX3_count wsX3_allStones := goodIn_r _ [35, 36, 37, 38, 39, 40, 41, 42, 43, 44, 45, 46, 47, 48] (by decide +kernel) (by decide +kernel)
set_option maxRecDepth 20000 in
theorem gX3_count_X3_allStones : GoodIn wsX3_count (wsV RX3 208 RX3 yX3_allStones wsX3_allStones) := goodIn_app (goodIn_of _ (by decide +kernel)) ggX3_count_X3_allStones
theorem dX3_count_0 : decode cX3_count 0 = .ok (.iload_n 1, 1) := by decide +kernel
theorem dX3_count_1 : decode cX3_count 1 = .ok (.iconst 0, 1) := by decide +kernel
theorem dX3_count_2 : decode cX3_count 2 = .ok (.bipush 8, 2) := by decide +kernel
theorem dX3_count_4 : decode cX3_count 4 = .ok (.invokestatic 58, 3) := by decide +kernel
theorem dX3_count_7 : decode cX3_count 7 = .ok (.ifCond .ne 13, 3) := by decide +kernel
theorem dX3_count_10 : decode cX3_count 10 = .ok (.new 51, 3) := by decide +kernel
theorem dX3_count_13 : decode cX3_count 13 = .ok (.dup, 1) := by decide +kernel
theorem dX3_count_14 : decode cX3_count 14 = .ok (.ldc 191, 2) := by decide +kernel
theorem dX3_count_16 : decode cX3_count 16 = .ok (.invokespecial 55, 3) := by decide +kernel
theorem dX3_count_19 : decode cX3_count 19 = .ok (.athrow, 1) := by decide +kernel
theorem dX3_count_20 : decode cX3_count 20 = .ok (.iload_n 1, 1) := by decide +kernel
theorem dX3_count_21 : decode cX3_count 21 = .ok (.tableswitch 97 0 7 #[47, 52, 61, 66, 71, 76, 81, 89], 47) := by decide +kernel
theorem dX3_count_68 : decode cX3_count 68 = .ok (.aload_n 0, 1) := by decide +kernel
theorem dX3_count_69 : decode cX3_count 69 = .ok (.getfield 193, 3) := by decide +kernel
theorem dX3_count_72 : decode cX3_count 72 = .ok (.ireturn, 1) := by decide +kernel
theorem dX3_count_73 : decode cX3_count 73 = .ok (.aload_n 0, 1) := by decide +kernel
theorem dX3_count_74 : decode cX3_count 74 = .ok (.aload_n 0, 1) := by decide +kernel
theorem dX3_count_75 : decode cX3_count 75 = .ok (.getfield 193, 3) := by decide +kernel
theorem dX3_count_78 : decode cX3_count 78 = .ok (.invokevirtual 196, 3) := by decide +kernel
theorem dX3_count_81 : decode cX3_count 81 = .ok (.ireturn, 1) := by decide +kernel
theorem dX3_count_82 : decode cX3_count 82 = .ok (.aload_n 0, 1) := by decide +kernel
theorem dX3_count_83 : decode cX3_count 83 = .ok (.getfield 75, 3) := by decide +kernel
theorem dX3_count_86 : decode cX3_count 86 = .ok (.ireturn, 1) := by decide +kernel
theorem dX3_count_87 : decode cX3_count 87 = .ok (.aload_n 0, 1) := by decide +kernel
theorem dX3_count_88 : decode cX3_count 88 = .ok (.getfield 121, 3) := by decide +kernel
theorem dX3_count_91 : decode cX3_count 91 = .ok (.ireturn, 1) := by decide +kernel
theorem dX3_count_92 : decode cX3_count 92 = .ok (.aload_n 0, 1) := by decide +kernel
theorem dX3_count_93 : decode cX3_count 93 = .ok (.getfield 170, 3) := by decide +kernel
theorem dX3_count_96 : decode cX3_count 96 = .ok (.ireturn, 1) := by decide +kernel
theorem dX3_count_97 : decode cX3_count 97 = .ok (.aload_n 0, 1) := by decide +kernel
theorem dX3_count_98 : decode cX3_count 98 = .ok (.invokevirtual 199, 3) := by decide +kernel
theorem dX3_count_101 : decode cX3_count 101 = .ok (.ireturn, 1) := by decide +kernel
theorem dX3_count_102 : decode cX3_count 102 = .ok (.aload_n 0, 1) := by decide +kernel
theorem dX3_count_103 : decode cX3_count 103 = .ok (.getfield 34, 3) := by decide +kernel
theorem dX3_count_106 : decode cX3_count 106 = .ok (.invokevirtual 202, 3) := by decide +kernel
theorem dX3_count_109 : decode cX3_count 109 = .ok (.ireturn, 1) := by decide +kernel
theorem dX3_count_110 : decode cX3_count 110 = .ok (.aload_n 0, 1) := by decide +kernel
theorem dX3_count_111 : decode cX3_count 111 = .ok (.getfield 34, 3) := by decide +kernel
theorem dX3_count_114 : decode cX3_count 114 = .ok (.getfield 205, 3) := by decide +kernel
theorem dX3_count_117 : decode cX3_count 117 = .ok (.ireturn, 1) := by decide +kernel
theorem dX3_count_118 : decode cX3_count 118 = .ok (.aload_n 0, 1) := by decide +kernel
theorem dX3_count_119 : decode cX3_count 119 = .ok (.invokevirtual 208, 3) := by decide +kernel
theorem dX3_count_122 : decode cX3_count 122 = .ok (.ireturn, 1) := by decide +kernel
set_option maxRecDepth 20000 in
theorem ggX3_pass_X3_isWithin : GoodIn wsX3_pass wsX3_isWithin := goodIn_r _ [7] (by decide +kernel) (by decide +kernel)
set_option maxRecDepth 20000 in
theorem gX3_pass_X3_isWithin : GoodIn wsX3_pass (va_wsS RX3 58 yX3_isWithin wsX3_isWithin) := goodIn_app (goodIn_of _ (by decide +kernel)) ggX3_pass_X3_isWithin
set_option maxRecDepth 20000 in
theorem ggX3_pass_X1_allSacks : GoodIn wsX3_pass wsX1_allSacks := goodIn_r _ [12, 13, 72, 73] (by decide +kernel) (by decide +kernel)
set_option maxRecDepth 20000 in
theorem gX3_pass_X1_allSacks : GoodIn wsX3_pass (wsV RX3 202 RX1 yX1_allSacks wsX1_allSacks) := goodIn_app (goodIn_of _ (by decide +kernel)) ggX3_pass_X1_allSacks
set_option maxRecDepth 20000 in
theorem ggX3_pass_X3_passOneHour : GoodIn wsX3_pass wsX3_passOneHour := goodIn_r _ [17, 18, 19, 20, 3, 21, 22, 23, 6, 24, 25, 26, 27, 28, 29, 30, 31, 32, 33, 34, 35, 36, 37, 38, 39, 40, 41, 42, 43, 44, 45, 46, 47, 48, 49, 50, 51, 52, 53, 54, 55, 56, 57, 58, 59, 60, 61, 62, 63, 64, 65, 66, 67, 68, 69, 70, 71, 74, 75, 76, 77, 78, 72, 73] (by decide +kernel) (by decide +kernel)
set_option maxRecDepth 20000 in
theorem gX3_pass_X3_passOneHour : GoodIn wsX3_pass (wsV RX3 213 RX3 yX3_passOneHour wsX3_passOneHour) := goodIn_app (goodIn_of _ (by decide +kernel)) ggX3_pass_X3_passOneHour
theorem dX3_pass_0 : decode cX3_pass 0 = .ok (.iload_n 1, 1) := by decide +kernel
theorem dX3_pass_1 : decode cX3_pass 1 = .ok (.iconst 1, 1) := by decide +kernel
theorem dX3_pass_2 : decode cX3_pass 2 = .ok (.bipush 60, 2) := by decide +kernel
theorem dX3_pass_4 : decode cX3_pass 4 = .ok (.invokestatic 58, 3) := by decide +kernel
theorem dX3_pass_7 : decode cX3_pass 7 = .ok (.ifCond .ne 13, 3) := by decide +kernel
theorem dX3_pass_10 : decode cX3_pass 10 = .ok (.new 62, 3) := by decide +kernel
theorem dX3_pass_13 : decode cX3_pass 13 = .ok (.dup, 1) := by decide +kernel
theorem dX3_pass_14 : decode cX3_pass 14 = .ok (.ldc 211, 2) := by decide +kernel
theorem dX3_pass_16 : decode cX3_pass 16 = .ok (.invokespecial 66, 3) := by decide +kernel
theorem dX3_pass_19 : decode cX3_pass 19 = .ok (.athrow, 1) := by decide +kernel
theorem dX3_pass_20 : decode cX3_pass 20 = .ok (.aload_n 0, 1) := by decide +kernel
theorem dX3_pass_21 : decode cX3_pass 21 = .ok (.getfield 34, 3) := by decide +kernel
theorem dX3_pass_24 : decode cX3_pass 24 = .ok (.invokevirtual 202, 3) := by decide +kernel
theorem dX3_pass_27 : decode cX3_pass 27 = .ok (.istore_n 2, 1) := by decide +kernel
theorem dX3_pass_28 : decode cX3_pass 28 = .ok (.iconst 0, 1) := by decide +kernel
theorem dX3_pass_29 : decode cX3_pass 29 = .ok (.istore_n 3, 1) := by decide +kernel
theorem dX3_pass_30 : decode cX3_pass 30 = .ok (.iload_n 3, 1) := by decide +kernel
theorem dX3_pass_31 : decode cX3_pass 31 = .ok (.iload_n 1, 1) := by decide +kernel
theorem dX3_pass_32 : decode cX3_pass 32 = .ok (.if_icmp .ge 13, 3) := by decide +kernel
theorem dX3_pass_35 : decode cX3_pass 35 = .ok (.aload_n 0, 1) := by decide +kernel
theorem dX3_pass_36 : decode cX3_pass 36 = .ok (.invokevirtual 213, 3) := by decide +kernel
theorem dX3_pass_39 : decode cX3_pass 39 = .ok (.iinc 3 1, 3) := by decide +kernel
theorem dX3_pass_42 : decode cX3_pass 42 = .ok (.goto (-12), 3) := by decide +kernel
theorem dX3_pass_45 : decode cX3_pass 45 = .ok (.aload_n 0, 1) := by decide +kernel
theorem dX3_pass_46 : decode cX3_pass 46 = .ok (.getfield 34, 3) := by decide +kernel
theorem dX3_pass_49 : decode cX3_pass 49 = .ok (.invokevirtual 202, 3) := by decide +kernel
theorem dX3_pass_52 : decode cX3_pass 52 = .ok (.iload_n 2, 1) := by decide +kernel
theorem dX3_pass_53 : decode cX3_pass 53 = .ok (.isub, 1) := by decide +kernel
theorem dX3_pass_54 : decode cX3_pass 54 = .ok (.ireturn, 1) := by decide +kernel
set_option maxRecDepth 20000 in
theorem ggX3_back_X3_isSledge : GoodIn wsX3_back wsX3_isSledge := goodIn_r _ [11, 12, 61, 62, 63, 64, 65, 66, 67, 68, 69, 70, 71, 72] (by decide +kernel) (by decide +kernel)
set_option maxRecDepth 20000 in
theorem gX3_back_X3_isSledge : GoodIn wsX3_back (wsV RX3 87 RX3 yX3_isSledge wsX3_isSledge) := goodIn_app (goodIn_of _ (by decide +kernel)) ggX3_back_X3_isSledge
set_option maxRecDepth 20000 in
theorem ggX3_back_X2_become : GoodIn wsX3_back wsX2_become := goodIn_r _ [17, 18, 19, 20, 21, 22, 23, 24, 25, 26, 73, 74, 75, 76, 77] (by decide +kernel) (by decide +kernel)
set_option maxRecDepth 20000 in
theorem gX3_back_X2_become : GoodIn wsX3_back (wsV RX3 216 RX2 yX2_become wsX2_become) := goodIn_app (goodIn_of _ (by decide +kernel)) ggX3_back_X2_become
set_option maxRecDepth 20000 in
theorem ggX3_back_X3_gustAt : GoodIn wsX3_back wsX3_gustAt := goodIn_r _ [30, 31, 32, 33, 34, 35, 61, 62, 63, 64, 65, 66, 67, 68, 69, 70, 71, 72] (by decide +kernel) (by decide +kernel)
set_option maxRecDepth 20000 in
theorem gX3_back_X3_gustAt : GoodIn wsX3_back (wsV RX3 196 RX3 yX3_gustAt wsX3_gustAt) := goodIn_app (goodIn_of _ (by decide +kernel)) ggX3_back_X3_gustAt
set_option maxRecDepth 20000 in
theorem ggX3_back_X2_travel : GoodIn wsX3_back wsX2_travel := goodIn_r _ [39, 26, 40, 41, 42, 16, 43, 24, 25, 44, 45, 46, 47, 48, 49, 50, 51, 19, 52, 10, 53, 54, 55, 56, 57, 58, 59, 60, 73, 74, 75, 76, 77, 78, 79] (by decide +kernel) (by decide +kernel)
set_option maxRecDepth 20000 in
theorem gX3_back_X2_travel : GoodIn wsX3_back (wsV RX3 220 RX2 yX2_travel wsX2_travel) := goodIn_app (goodIn_of _ (by decide +kernel)) ggX3_back_X2_travel
theorem dX3_back_0 : decode cX3_back 0 = .ok (.aload_n 0, 1) := by decide +kernel
theorem dX3_back_1 : decode cX3_back 1 = .ok (.iload_n 1, 1) := by decide +kernel
theorem dX3_back_2 : decode cX3_back 2 = .ok (.invokevirtual 87, 3) := by decide +kernel
theorem dX3_back_5 : decode cX3_back 5 = .ok (.ifCond .ne 13, 3) := by decide +kernel
theorem dX3_back_8 : decode cX3_back 8 = .ok (.new 51, 3) := by decide +kernel
theorem dX3_back_11 : decode cX3_back 11 = .ok (.dup, 1) := by decide +kernel
theorem dX3_back_12 : decode cX3_back 12 = .ok (.ldc 90, 2) := by decide +kernel
theorem dX3_back_14 : decode cX3_back 14 = .ok (.invokespecial 55, 3) := by decide +kernel
theorem dX3_back_17 : decode cX3_back 17 = .ok (.athrow, 1) := by decide +kernel
theorem dX3_back_18 : decode cX3_back 18 = .ok (.aload_n 0, 1) := by decide +kernel
theorem dX3_back_19 : decode cX3_back 19 = .ok (.getfield 39, 3) := by decide +kernel
theorem dX3_back_22 : decode cX3_back 22 = .ok (.aload_n 0, 1) := by decide +kernel
theorem dX3_back_23 : decode cX3_back 23 = .ok (.getfield 21, 3) := by decide +kernel
theorem dX3_back_26 : decode cX3_back 26 = .ok (.iload_n 1, 1) := by decide +kernel
theorem dX3_back_27 : decode cX3_back 27 = .ok (.aaload, 1) := by decide +kernel
theorem dX3_back_28 : decode cX3_back 28 = .ok (.invokevirtual 216, 3) := by decide +kernel
theorem dX3_back_31 : decode cX3_back 31 = .ok (.iconst 0, 1) := by decide +kernel
theorem dX3_back_32 : decode cX3_back 32 = .ok (.istore_n 2, 1) := by decide +kernel
theorem dX3_back_33 : decode cX3_back 33 = .ok (.aload_n 0, 1) := by decide +kernel
theorem dX3_back_34 : decode cX3_back 34 = .ok (.getfield 39, 3) := by decide +kernel
theorem dX3_back_37 : decode cX3_back 37 = .ok (.getfield 92, 3) := by decide +kernel
theorem dX3_back_40 : decode cX3_back 40 = .ok (.ifCond .eq 36, 3) := by decide +kernel
theorem dX3_back_43 : decode cX3_back 43 = .ok (.iload_n 2, 1) := by decide +kernel
theorem dX3_back_44 : decode cX3_back 44 = .ok (.bipush 100, 2) := by decide +kernel
theorem dX3_back_46 : decode cX3_back 46 = .ok (.if_icmp .ge 30, 3) := by decide +kernel
theorem dX3_back_49 : decode cX3_back 49 = .ok (.aload_n 0, 1) := by decide +kernel
theorem dX3_back_50 : decode cX3_back 50 = .ok (.getfield 39, 3) := by decide +kernel
theorem dX3_back_53 : decode cX3_back 53 = .ok (.aload_n 0, 1) := by decide +kernel
theorem dX3_back_54 : decode cX3_back 54 = .ok (.aload_n 0, 1) := by decide +kernel
theorem dX3_back_55 : decode cX3_back 55 = .ok (.getfield 193, 3) := by decide +kernel
theorem dX3_back_58 : decode cX3_back 58 = .ok (.iload_n 2, 1) := by decide +kernel
theorem dX3_back_59 : decode cX3_back 59 = .ok (.iadd, 1) := by decide +kernel
theorem dX3_back_60 : decode cX3_back 60 = .ok (.invokevirtual 196, 3) := by decide +kernel
theorem dX3_back_63 : decode cX3_back 63 = .ok (.aload_n 0, 1) := by decide +kernel
theorem dX3_back_64 : decode cX3_back 64 = .ok (.getfield 43, 3) := by decide +kernel
theorem dX3_back_67 : decode cX3_back 67 = .ok (.invokevirtual 220, 3) := by decide +kernel
theorem dX3_back_70 : decode cX3_back 70 = .ok (.iinc 2 1, 3) := by decide +kernel
theorem dX3_back_73 : decode cX3_back 73 = .ok (.goto (-40), 3) := by decide +kernel
theorem dX3_back_76 : decode cX3_back 76 = .ok (.iload_n 2, 1) := by decide +kernel
theorem dX3_back_77 : decode cX3_back 77 = .ok (.ireturn, 1) := by decide +kernel
set_option maxRecDepth 20000 in
theorem ggX3_arrives_X3_isSledge : GoodIn wsX3_arrives wsX3_isSledge := goodIn_r _ [11, 12, 67, 68, 69, 70, 71, 72, 73, 74, 75, 76, 77, 78] (by decide +kernel) (by decide +kernel)
set_option maxRecDepth 20000 in
theorem gX3_arrives_X3_isSledge : GoodIn wsX3_arrives (wsV RX3 87 RX3 yX3_isSledge wsX3_isSledge) := goodIn_app (goodIn_of _ (by decide +kernel)) ggX3_arrives_X3_isSledge
set_option maxRecDepth 20000 in
theorem ggX3_arrives_X2_become : GoodIn wsX3_arrives wsX2_become := goodIn_r _ [17, 18, 19, 20, 21, 22, 23, 24, 25, 26, 79, 80, 81, 82, 83] (by decide +kernel) (by decide +kernel)
set_option maxRecDepth 20000 in
theorem gX3_arrives_X2_become : GoodIn wsX3_arrives (wsV RX3 216 RX2 yX2_become wsX2_become) := goodIn_app (goodIn_of _ (by decide +kernel)) ggX3_arrives_X2_become
set_option maxRecDepth 20000 in
theorem ggX3_arrives_X1_allSacks : GoodIn wsX3_arrives wsX1_allSacks := goodIn_r _ [31, 32, 84, 85] (by decide +kernel) (by decide +kernel)
set_option maxRecDepth 20000 in
theorem gX3_arrives_X1_allSacks : GoodIn wsX3_arrives (wsV RX3 202 RX1 yX1_allSacks wsX1_allSacks) := goodIn_app (goodIn_of _ (by decide +kernel)) ggX3_arrives_X1_allSacks
set_option maxRecDepth 20000 in
theorem ggX3_arrives_X3_gustAt : GoodIn wsX3_arrives wsX3_gustAt := goodIn_r _ [36, 37, 38, 39, 40, 41, 67, 68, 69, 70, 71, 72, 73, 74, 75, 76, 77, 78] (by decide +kernel) (by decide +kernel)
set_option maxRecDepth 20000 in
theorem gX3_arrives_X3_gustAt : GoodIn wsX3_arrives (wsV RX3 196 RX3 yX3_gustAt wsX3_gustAt) := goodIn_app (goodIn_of _ (by decide +kernel)) ggX3_arrives_X3_gustAt
set_option maxRecDepth 20000 in
theorem ggX3_arrives_X2_travel : GoodIn wsX3_arrives wsX2_travel := goodIn_r _ [45, 26, 46, 47, 48, 16, 49, 24, 25, 50, 51, 52, 53, 54, 55, 56, 57, 19, 58, 10, 59, 60, 61, 62, 63, 64, 65, 66, 79, 80, 81, 82, 83, 84, 85] (by decide +kernel) (by decide +kernel)
set_option maxRecDepth 20000 in
theorem gX3_arrives_X2_travel : GoodIn wsX3_arrives (wsV RX3 220 RX2 yX2_travel wsX2_travel) := goodIn_app (goodIn_of _ (by decide +kernel)) ggX3_arrives_X2_travel
theorem dX3_arrives_0 : decode cX3_arrives 0 = .ok (.aload_n 0, 1) := by decide +kernel
theorem dX3_arrives_1 : decode cX3_arrives 1 = .ok (.iload_n 1, 1) := by decide +kernel
theorem dX3_arrives_2 : decode cX3_arrives 2 = .ok (.invokevirtual 87, 3) := by decide +kernel
theorem dX3_arrives_5 : decode cX3_arrives 5 = .ok (.ifCond .ne 13, 3) := by decide +kernel
theorem dX3_arrives_8 : decode cX3_arrives 8 = .ok (.new 51, 3) := by decide +kernel
theorem dX3_arrives_11 : decode cX3_arrives 11 = .ok (.dup, 1) := by decide +kernel
theorem dX3_arrives_12 : decode cX3_arrives 12 = .ok (.ldc 90, 2) := by decide +kernel
theorem dX3_arrives_14 : decode cX3_arrives 14 = .ok (.invokespecial 55, 3) := by decide +kernel
theorem dX3_arrives_17 : decode cX3_arrives 17 = .ok (.athrow, 1) := by decide +kernel
theorem dX3_arrives_18 : decode cX3_arrives 18 = .ok (.aload_n 0, 1) := by decide +kernel
theorem dX3_arrives_19 : decode cX3_arrives 19 = .ok (.getfield 39, 3) := by decide +kernel
theorem dX3_arrives_22 : decode cX3_arrives 22 = .ok (.aload_n 0, 1) := by decide +kernel
theorem dX3_arrives_23 : decode cX3_arrives 23 = .ok (.getfield 21, 3) := by decide +kernel
theorem dX3_arrives_26 : decode cX3_arrives 26 = .ok (.iload_n 1, 1) := by decide +kernel
theorem dX3_arrives_27 : decode cX3_arrives 27 = .ok (.aaload, 1) := by decide +kernel
theorem dX3_arrives_28 : decode cX3_arrives 28 = .ok (.invokevirtual 216, 3) := by decide +kernel
theorem dX3_arrives_31 : decode cX3_arrives 31 = .ok (.aload_n 0, 1) := by decide +kernel
theorem dX3_arrives_32 : decode cX3_arrives 32 = .ok (.getfield 39, 3) := by decide +kernel
theorem dX3_arrives_35 : decode cX3_arrives 35 = .ok (.getfield 92, 3) := by decide +kernel
theorem dX3_arrives_38 : decode cX3_arrives 38 = .ok (.iconst 2, 1) := by decide +kernel
theorem dX3_arrives_39 : decode cX3_arrives 39 = .ok (.if_icmp .ne 5, 3) := by decide +kernel
theorem dX3_arrives_42 : decode cX3_arrives 42 = .ok (.iconst 0, 1) := by decide +kernel
theorem dX3_arrives_43 : decode cX3_arrives 43 = .ok (.ireturn, 1) := by decide +kernel
theorem dX3_arrives_44 : decode cX3_arrives 44 = .ok (.aload_n 0, 1) := by decide +kernel
theorem dX3_arrives_45 : decode cX3_arrives 45 = .ok (.getfield 39, 3) := by decide +kernel
theorem dX3_arrives_48 : decode cX3_arrives 48 = .ok (.iconst 1, 1) := by decide +kernel
theorem dX3_arrives_49 : decode cX3_arrives 49 = .ok (.putfield 92, 3) := by decide +kernel
theorem dX3_arrives_52 : decode cX3_arrives 52 = .ok (.aload_n 0, 1) := by decide +kernel
theorem dX3_arrives_53 : decode cX3_arrives 53 = .ok (.getfield 43, 3) := by decide +kernel
theorem dX3_arrives_56 : decode cX3_arrives 56 = .ok (.invokevirtual 202, 3) := by decide +kernel
theorem dX3_arrives_59 : decode cX3_arrives 59 = .ok (.istore_n 2, 1) := by decide +kernel
theorem dX3_arrives_60 : decode cX3_arrives 60 = .ok (.iconst 0, 1) := by decide +kernel
theorem dX3_arrives_61 : decode cX3_arrives 61 = .ok (.istore_n 3, 1) := by decide +kernel
theorem dX3_arrives_62 : decode cX3_arrives 62 = .ok (.aload_n 0, 1) := by decide +kernel
theorem dX3_arrives_63 : decode cX3_arrives 63 = .ok (.getfield 39, 3) := by decide +kernel
theorem dX3_arrives_66 : decode cX3_arrives 66 = .ok (.getfield 92, 3) := by decide +kernel
theorem dX3_arrives_69 : decode cX3_arrives 69 = .ok (.iconst 1, 1) := by decide +kernel
theorem dX3_arrives_70 : decode cX3_arrives 70 = .ok (.if_icmp .ne 36, 3) := by decide +kernel
theorem dX3_arrives_73 : decode cX3_arrives 73 = .ok (.iload_n 3, 1) := by decide +kernel
theorem dX3_arrives_74 : decode cX3_arrives 74 = .ok (.bipush 100, 2) := by decide +kernel
theorem dX3_arrives_76 : decode cX3_arrives 76 = .ok (.if_icmp .ge 30, 3) := by decide +kernel
theorem dX3_arrives_79 : decode cX3_arrives 79 = .ok (.aload_n 0, 1) := by decide +kernel
theorem dX3_arrives_80 : decode cX3_arrives 80 = .ok (.getfield 39, 3) := by decide +kernel
theorem dX3_arrives_83 : decode cX3_arrives 83 = .ok (.aload_n 0, 1) := by decide +kernel
theorem dX3_arrives_84 : decode cX3_arrives 84 = .ok (.aload_n 0, 1) := by decide +kernel
theorem dX3_arrives_85 : decode cX3_arrives 85 = .ok (.getfield 193, 3) := by decide +kernel
theorem dX3_arrives_88 : decode cX3_arrives 88 = .ok (.iload_n 3, 1) := by decide +kernel
theorem dX3_arrives_89 : decode cX3_arrives 89 = .ok (.iadd, 1) := by decide +kernel
theorem dX3_arrives_90 : decode cX3_arrives 90 = .ok (.invokevirtual 196, 3) := by decide +kernel
theorem dX3_arrives_93 : decode cX3_arrives 93 = .ok (.aload_n 0, 1) := by decide +kernel
theorem dX3_arrives_94 : decode cX3_arrives 94 = .ok (.getfield 43, 3) := by decide +kernel
theorem dX3_arrives_97 : decode cX3_arrives 97 = .ok (.invokevirtual 220, 3) := by decide +kernel
theorem dX3_arrives_100 : decode cX3_arrives 100 = .ok (.iinc 3 1, 3) := by decide +kernel
theorem dX3_arrives_103 : decode cX3_arrives 103 = .ok (.goto (-41), 3) := by decide +kernel
theorem dX3_arrives_106 : decode cX3_arrives 106 = .ok (.aload_n 0, 1) := by decide +kernel
theorem dX3_arrives_107 : decode cX3_arrives 107 = .ok (.getfield 43, 3) := by decide +kernel
theorem dX3_arrives_110 : decode cX3_arrives 110 = .ok (.invokevirtual 202, 3) := by decide +kernel
theorem dX3_arrives_113 : decode cX3_arrives 113 = .ok (.iload_n 2, 1) := by decide +kernel
theorem dX3_arrives_114 : decode cX3_arrives 114 = .ok (.isub, 1) := by decide +kernel
theorem dX3_arrives_115 : decode cX3_arrives 115 = .ok (.ireturn, 1) := by decide +kernel
set_option maxRecDepth 20000 in
theorem ggX3_advise_X3_isBoat : GoodIn wsX3_advise wsX3_isBoat := goodIn_r _ [8, 9, 34, 35, 36, 37, 38, 39, 40, 41, 42, 43, 44, 45] (by decide +kernel) (by decide +kernel)
set_option maxRecDepth 20000 in
theorem gX3_advise_X3_isBoat : GoodIn wsX3_advise (wsV RX3 129 RX3 yX3_isBoat wsX3_isBoat) := goodIn_app (goodIn_of _ (by decide +kernel)) ggX3_advise_X3_isBoat
set_option maxRecDepth 20000 in
theorem ggX3_advise_X3_isKind : GoodIn wsX3_advise wsX3_isKind := goodIn_r _ [12, 13, 14, 7, 15] (by decide +kernel) (by decide +kernel)
set_option maxRecDepth 20000 in
theorem gX3_advise_X3_isKind : GoodIn wsX3_advise (va_wsS RX3 134 yX3_isKind wsX3_isKind) := goodIn_app (goodIn_of _ (by decide +kernel)) ggX3_advise_X3_isKind
set_option maxRecDepth 20000 in
theorem ggX3_advise_X3_stowedWeight : GoodIn wsX3_advise wsX3_stowedWeight := goodIn_r _ [18] (by decide +kernel) (by decide +kernel)
set_option maxRecDepth 20000 in
theorem gX3_advise_X3_stowedWeight : GoodIn wsX3_advise (va_wsS RX3 139 yX3_stowedWeight wsX3_stowedWeight) := goodIn_app (goodIn_of _ (by decide +kernel)) ggX3_advise_X3_stowedWeight
set_option maxRecDepth 20000 in
theorem ggX3_advise_X0_room : GoodIn wsX3_advise wsX0_room := goodIn_r _ [23, 24, 25, 26, 46, 47, 48] (by decide +kernel) (by decide +kernel)
set_option maxRecDepth 20000 in
theorem gX3_advise_X0_room : GoodIn wsX3_advise (wsV RX3 147 RX0 yX0_room wsX0_room) := goodIn_app (goodIn_of _ (by decide +kernel)) ggX3_advise_X0_room
set_option maxRecDepth 20000 in
theorem ggX3_advise_X3_depthOf : GoodIn wsX3_advise wsX3_depthOf := goodIn_r _ [29, 30, 31, 32, 33] (by decide +kernel) (by decide +kernel)
set_option maxRecDepth 20000 in
theorem gX3_advise_X3_depthOf : GoodIn wsX3_advise (va_wsS RX3 224 yX3_depthOf wsX3_depthOf) := goodIn_app (goodIn_of _ (by decide +kernel)) ggX3_advise_X3_depthOf
theorem dX3_advise_0 : decode cX3_advise 0 = .ok (.aload_n 0, 1) := by decide +kernel
theorem dX3_advise_1 : decode cX3_advise 1 = .ok (.iload_n 1, 1) := by decide +kernel
theorem dX3_advise_2 : decode cX3_advise 2 = .ok (.invokevirtual 129, 3) := by decide +kernel
theorem dX3_advise_5 : decode cX3_advise 5 = .ok (.ifCond .ne 13, 3) := by decide +kernel
theorem dX3_advise_8 : decode cX3_advise 8 = .ok (.new 51, 3) := by decide +kernel
theorem dX3_advise_11 : decode cX3_advise 11 = .ok (.dup, 1) := by decide +kernel
theorem dX3_advise_12 : decode cX3_advise 12 = .ok (.ldc 132, 2) := by decide +kernel
theorem dX3_advise_14 : decode cX3_advise 14 = .ok (.invokespecial 55, 3) := by decide +kernel
theorem dX3_advise_17 : decode cX3_advise 17 = .ok (.athrow, 1) := by decide +kernel
theorem dX3_advise_18 : decode cX3_advise 18 = .ok (.iload_n 2, 1) := by decide +kernel
theorem dX3_advise_19 : decode cX3_advise 19 = .ok (.invokestatic 134, 3) := by decide +kernel
theorem dX3_advise_22 : decode cX3_advise 22 = .ok (.ifCond .ne 13, 3) := by decide +kernel
theorem dX3_advise_25 : decode cX3_advise 25 = .ok (.new 51, 3) := by decide +kernel
theorem dX3_advise_28 : decode cX3_advise 28 = .ok (.dup, 1) := by decide +kernel
theorem dX3_advise_29 : decode cX3_advise 29 = .ok (.ldc 137, 2) := by decide +kernel
theorem dX3_advise_31 : decode cX3_advise 31 = .ok (.invokespecial 55, 3) := by decide +kernel
theorem dX3_advise_34 : decode cX3_advise 34 = .ok (.athrow, 1) := by decide +kernel
theorem dX3_advise_35 : decode cX3_advise 35 = .ok (.aload_n 0, 1) := by decide +kernel
theorem dX3_advise_36 : decode cX3_advise 36 = .ok (.getfield 27, 3) := by decide +kernel
theorem dX3_advise_39 : decode cX3_advise 39 = .ok (.iload_n 1, 1) := by decide +kernel
theorem dX3_advise_40 : decode cX3_advise 40 = .ok (.aaload, 1) := by decide +kernel
theorem dX3_advise_41 : decode cX3_advise 41 = .ok (.astore_n 3, 1) := by decide +kernel
theorem dX3_advise_42 : decode cX3_advise 42 = .ok (.iload_n 2, 1) := by decide +kernel
theorem dX3_advise_43 : decode cX3_advise 43 = .ok (.invokestatic 139, 3) := by decide +kernel
theorem dX3_advise_46 : decode cX3_advise 46 = .ok (.istore 4, 2) := by decide +kernel
theorem dX3_advise_48 : decode cX3_advise 48 = .ok (.iload 4, 2) := by decide +kernel
theorem dX3_advise_50 : decode cX3_advise 50 = .ok (.aload_n 3, 1) := by decide +kernel
theorem dX3_advise_51 : decode cX3_advise 51 = .ok (.invokevirtual 147, 3) := by decide +kernel
theorem dX3_advise_54 : decode cX3_advise 54 = .ok (.if_icmp .le 5, 3) := by decide +kernel
theorem dX3_advise_57 : decode cX3_advise 57 = .ok (.iconst 0, 1) := by decide +kernel
theorem dX3_advise_58 : decode cX3_advise 58 = .ok (.ireturn, 1) := by decide +kernel
theorem dX3_advise_59 : decode cX3_advise 59 = .ok (.aload_n 3, 1) := by decide +kernel
theorem dX3_advise_60 : decode cX3_advise 60 = .ok (.getfield 153, 3) := by decide +kernel
theorem dX3_advise_63 : decode cX3_advise 63 = .ok (.iload 4, 2) := by decide +kernel
theorem dX3_advise_65 : decode cX3_advise 65 = .ok (.iadd, 1) := by decide +kernel
theorem dX3_advise_66 : decode cX3_advise 66 = .ok (.aload_n 3, 1) := by decide +kernel
theorem dX3_advise_67 : decode cX3_advise 67 = .ok (.getfield 156, 3) := by decide +kernel
theorem dX3_advise_70 : decode cX3_advise 70 = .ok (.invokestatic 224, 3) := by decide +kernel
theorem dX3_advise_73 : decode cX3_advise 73 = .ok (.istore 5, 2) := by decide +kernel
theorem dX3_advise_75 : decode cX3_advise 75 = .ok (.aload_n 3, 1) := by decide +kernel
theorem dX3_advise_76 : decode cX3_advise 76 = .ok (.getfield 153, 3) := by decide +kernel
theorem dX3_advise_79 : decode cX3_advise 79 = .ok (.aload_n 3, 1) := by decide +kernel
theorem dX3_advise_80 : decode cX3_advise 80 = .ok (.getfield 156, 3) := by decide +kernel
theorem dX3_advise_83 : decode cX3_advise 83 = .ok (.iload 4, 2) := by decide +kernel
theorem dX3_advise_85 : decode cX3_advise 85 = .ok (.iadd, 1) := by decide +kernel
theorem dX3_advise_86 : decode cX3_advise 86 = .ok (.invokestatic 224, 3) := by decide +kernel
theorem dX3_advise_89 : decode cX3_advise 89 = .ok (.istore 6, 2) := by decide +kernel
theorem dX3_advise_91 : decode cX3_advise 91 = .ok (.iload 5, 2) := by decide +kernel
theorem dX3_advise_93 : decode cX3_advise 93 = .ok (.iload 6, 2) := by decide +kernel
theorem dX3_advise_95 : decode cX3_advise 95 = .ok (.if_icmp .gt 7, 3) := by decide +kernel
theorem dX3_advise_98 : decode cX3_advise 98 = .ok (.iconst 1, 1) := by decide +kernel
theorem dX3_advise_99 : decode cX3_advise 99 = .ok (.goto 4, 3) := by decide +kernel
theorem dX3_advise_102 : decode cX3_advise 102 = .ok (.iconst 2, 1) := by decide +kernel
theorem dX3_advise_103 : decode cX3_advise 103 = .ok (.ireturn, 1) := by decide +kernel
set_option maxRecDepth 20000 in
theorem ggX3_foresee_X3_isWithin : GoodIn wsX3_foresee wsX3_isWithin := goodIn_r _ [12] (by decide +kernel) (by decide +kernel)
set_option maxRecDepth 20000 in
theorem gX3_foresee_X3_isWithin : GoodIn wsX3_foresee (va_wsS RX3 58 yX3_isWithin wsX3_isWithin) := goodIn_app (goodIn_of _ (by decide +kernel)) ggX3_foresee_X3_isWithin
set_option maxRecDepth 20000 in
theorem ggX3_foresee_X1_become : GoodIn wsX3_foresee wsX1_become := goodIn_r _ [17, 18, 19, 20, 21, 22, 23, 91, 92] (by decide +kernel) (by decide +kernel)
set_option maxRecDepth 20000 in
theorem gX3_foresee_X1_become : GoodIn wsX3_foresee (wsV RX3 230 RX1 yX1_become wsX1_become) := goodIn_app (goodIn_of _ (by decide +kernel)) ggX3_foresee_X1_become
set_option maxRecDepth 20000 in
theorem ggX3_foresee_X3_aboardBehind : GoodIn wsX3_foresee wsX3_aboardBehind := goodIn_r _ [27, 28, 29, 5, 30, 31, 32, 33, 34, 35, 36, 37, 20, 21, 22, 38, 39, 40, 41, 42, 43, 11, 44, 45, 46, 47, 48, 49, 50, 51, 52, 53, 54, 55, 56, 57, 58, 59, 60, 61, 62, 63, 64, 65, 66, 67, 68, 69, 70, 71, 72, 73, 74, 79, 80, 81, 82, 83, 84, 85, 86, 87, 88, 89, 90, 93, 94, 95, 96, 97, 91, 92] (by decide +kernel) (by decide +kernel)
set_option maxRecDepth 20000 in
theorem gX3_foresee_X3_aboardBehind : GoodIn wsX3_foresee (wsV RX3 233 RX3 yX3_aboardBehind wsX3_aboardBehind) := goodIn_app (goodIn_of _ (by decide +kernel)) ggX3_foresee_X3_aboardBehind
set_option maxRecDepth 20000 in
theorem ggX3_foresee_X1_allSacks : GoodIn wsX3_foresee wsX1_allSacks := goodIn_r _ [78, 18, 91, 92] (by decide +kernel) (by decide +kernel)
set_option maxRecDepth 20000 in
theorem gX3_foresee_X1_allSacks : GoodIn wsX3_foresee (wsV RX3 202 RX1 yX1_allSacks wsX1_allSacks) := goodIn_app (goodIn_of _ (by decide +kernel)) ggX3_foresee_X1_allSacks
theorem dX3_foresee_0 : decode cX3_foresee 0 = .ok (.iload_n 1, 1) := by decide +kernel
theorem dX3_foresee_1 : decode cX3_foresee 1 = .ok (.iconst 1, 1) := by decide +kernel
theorem dX3_foresee_2 : decode cX3_foresee 2 = .ok (.bipush 60, 2) := by decide +kernel
theorem dX3_foresee_4 : decode cX3_foresee 4 = .ok (.invokestatic 58, 3) := by decide +kernel
theorem dX3_foresee_7 : decode cX3_foresee 7 = .ok (.ifCond .ne 13, 3) := by decide +kernel
theorem dX3_foresee_10 : decode cX3_foresee 10 = .ok (.new 62, 3) := by decide +kernel
theorem dX3_foresee_13 : decode cX3_foresee 13 = .ok (.dup, 1) := by decide +kernel
theorem dX3_foresee_14 : decode cX3_foresee 14 = .ok (.ldc 211, 2) := by decide +kernel
theorem dX3_foresee_16 : decode cX3_foresee 16 = .ok (.invokespecial 66, 3) := by decide +kernel
theorem dX3_foresee_19 : decode cX3_foresee 19 = .ok (.athrow, 1) := by decide +kernel
theorem dX3_foresee_20 : decode cX3_foresee 20 = .ok (.iload_n 2, 1) := by decide +kernel
theorem dX3_foresee_21 : decode cX3_foresee 21 = .ok (.iconst 5, 1) := by decide +kernel
theorem dX3_foresee_22 : decode cX3_foresee 22 = .ok (.bipush 7, 2) := by decide +kernel
theorem dX3_foresee_24 : decode cX3_foresee 24 = .ok (.invokestatic 58, 3) := by decide +kernel
theorem dX3_foresee_27 : decode cX3_foresee 27 = .ok (.ifCond .ne 13, 3) := by decide +kernel
theorem dX3_foresee_30 : decode cX3_foresee 30 = .ok (.new 51, 3) := by decide +kernel
theorem dX3_foresee_33 : decode cX3_foresee 33 = .ok (.dup, 1) := by decide +kernel
theorem dX3_foresee_34 : decode cX3_foresee 34 = .ok (.ldc 228, 2) := by decide +kernel
theorem dX3_foresee_36 : decode cX3_foresee 36 = .ok (.invokespecial 55, 3) := by decide +kernel
theorem dX3_foresee_39 : decode cX3_foresee 39 = .ok (.athrow, 1) := by decide +kernel
theorem dX3_foresee_40 : decode cX3_foresee 40 = .ok (.aload_n 0, 1) := by decide +kernel
theorem dX3_foresee_41 : decode cX3_foresee 41 = .ok (.getfield 43, 3) := by decide +kernel
theorem dX3_foresee_44 : decode cX3_foresee 44 = .ok (.aload_n 0, 1) := by decide +kernel
theorem dX3_foresee_45 : decode cX3_foresee 45 = .ok (.getfield 34, 3) := by decide +kernel
theorem dX3_foresee_48 : decode cX3_foresee 48 = .ok (.invokevirtual 230, 3) := by decide +kernel
theorem dX3_foresee_51 : decode cX3_foresee 51 = .ok (.iconst 0, 1) := by decide +kernel
theorem dX3_foresee_52 : decode cX3_foresee 52 = .ok (.istore_n 3, 1) := by decide +kernel
theorem dX3_foresee_53 : decode cX3_foresee 53 = .ok (.iconst 0, 1) := by decide +kernel
theorem dX3_foresee_54 : decode cX3_foresee 54 = .ok (.istore 4, 2) := by decide +kernel
theorem dX3_foresee_56 : decode cX3_foresee 56 = .ok (.iload 4, 2) := by decide +kernel
theorem dX3_foresee_58 : decode cX3_foresee 58 = .ok (.aload_n 0, 1) := by decide +kernel
theorem dX3_foresee_59 : decode cX3_foresee 59 = .ok (.getfield 75, 3) := by decide +kernel
theorem dX3_foresee_62 : decode cX3_foresee 62 = .ok (.if_icmp .ge 24, 3) := by decide +kernel
theorem dX3_foresee_65 : decode cX3_foresee 65 = .ok (.iload_n 3, 1) := by decide +kernel
theorem dX3_foresee_66 : decode cX3_foresee 66 = .ok (.aload_n 0, 1) := by decide +kernel
theorem dX3_foresee_67 : decode cX3_foresee 67 = .ok (.iload_n 1, 1) := by decide +kernel
theorem dX3_foresee_68 : decode cX3_foresee 68 = .ok (.aload_n 0, 1) := by decide +kernel
theorem dX3_foresee_69 : decode cX3_foresee 69 = .ok (.getfield 21, 3) := by decide +kernel
theorem dX3_foresee_72 : decode cX3_foresee 72 = .ok (.iload 4, 2) := by decide +kernel
theorem dX3_foresee_74 : decode cX3_foresee 74 = .ok (.aaload, 1) := by decide +kernel
theorem dX3_foresee_75 : decode cX3_foresee 75 = .ok (.invokevirtual 233, 3) := by decide +kernel
theorem dX3_foresee_78 : decode cX3_foresee 78 = .ok (.iadd, 1) := by decide +kernel
theorem dX3_foresee_79 : decode cX3_foresee 79 = .ok (.istore_n 3, 1) := by decide +kernel
theorem dX3_foresee_80 : decode cX3_foresee 80 = .ok (.iinc 4 1, 3) := by decide +kernel
theorem dX3_foresee_83 : decode cX3_foresee 83 = .ok (.goto (-27), 3) := by decide +kernel
theorem dX3_foresee_86 : decode cX3_foresee 86 = .ok (.iload_n 2, 1) := by decide +kernel
theorem dX3_foresee_87 : decode cX3_foresee 87 = .ok (.lookupswitch 35 #[(5, 25), (6, 27)], 25) := by decide +kernel
theorem dX3_foresee_112 : decode cX3_foresee 112 = .ok (.iload_n 3, 1) := by decide +kernel
theorem dX3_foresee_113 : decode cX3_foresee 113 = .ok (.ireturn, 1) := by decide +kernel
theorem dX3_foresee_114 : decode cX3_foresee 114 = .ok (.aload_n 0, 1) := by decide +kernel
theorem dX3_foresee_115 : decode cX3_foresee 115 = .ok (.getfield 43, 3) := by decide +kernel
theorem dX3_foresee_118 : decode cX3_foresee 118 = .ok (.invokevirtual 202, 3) := by decide +kernel
theorem dX3_foresee_121 : decode cX3_foresee 121 = .ok (.ireturn, 1) := by decide +kernel
theorem dX3_foresee_122 : decode cX3_foresee 122 = .ok (.aload_n 0, 1) := by decide +kernel
theorem dX3_foresee_123 : decode cX3_foresee 123 = .ok (.getfield 43, 3) := by decide +kernel
theorem dX3_foresee_126 : decode cX3_foresee 126 = .ok (.getfield 205, 3) := by decide +kernel
theorem dX3_foresee_129 : decode cX3_foresee 129 = .ok (.ireturn, 1) := by decide +kernel
set_option maxRecDepth 20000 in
theorem ggX3_mean_X3_sacksAboard : GoodIn wsX3_mean wsX3_sacksAboard := goodIn_r _ [7, 1, 2, 15, 16, 17, 18, 19, 20, 21, 22, 23, 24, 25, 26, 27, 28, 29, 30, 31] (by decide +kernel) (by decide +kernel)
set_option maxRecDepth 20000 in
theorem gX3_mean_X3_sacksAboard : GoodIn wsX3_mean (wsV RX3 199 RX3 yX3_sacksAboard wsX3_sacksAboard) := goodIn_app (goodIn_of _ (by decide +kernel)) ggX3_mean_X3_sacksAboard
set_option maxRecDepth 20000 in
theorem ggX3_mean_X2_weightAboard : GoodIn wsX3_mean wsX2_weightAboard := goodIn_r _ [12, 13, 14, 27, 28, 29, 30, 31] (by decide +kernel) (by decide +kernel)
set_option maxRecDepth 20000 in
theorem gX3_mean_X2_weightAboard : GoodIn wsX3_mean (wsV RX3 180 RX2 yX2_weightAboard wsX2_weightAboard) := goodIn_app (goodIn_of _ (by decide +kernel)) ggX3_mean_X2_weightAboard
theorem dX3_mean_0 : decode cX3_mean 0 = .ok (.aload_n 0, 1) := by decide +kernel
theorem dX3_mean_1 : decode cX3_mean 1 = .ok (.invokevirtual 199, 3) := by decide +kernel
theorem dX3_mean_4 : decode cX3_mean 4 = .ok (.istore_n 1, 1) := by decide +kernel
theorem dX3_mean_5 : decode cX3_mean 5 = .ok (.iload_n 1, 1) := by decide +kernel
theorem dX3_mean_6 : decode cX3_mean 6 = .ok (.ifCond .ne 5, 3) := by decide +kernel
theorem dX3_mean_9 : decode cX3_mean 9 = .ok (.dconst 0, 1) := by decide +kernel
theorem dX3_mean_10 : decode cX3_mean 10 = .ok (.dreturn, 1) := by decide +kernel
theorem dX3_mean_11 : decode cX3_mean 11 = .ok (.iconst 0, 1) := by decide +kernel
theorem dX3_mean_12 : decode cX3_mean 12 = .ok (.istore_n 2, 1) := by decide +kernel
theorem dX3_mean_13 : decode cX3_mean 13 = .ok (.iconst 0, 1) := by decide +kernel
theorem dX3_mean_14 : decode cX3_mean 14 = .ok (.istore_n 3, 1) := by decide +kernel
theorem dX3_mean_15 : decode cX3_mean 15 = .ok (.iload_n 3, 1) := by decide +kernel
theorem dX3_mean_16 : decode cX3_mean 16 = .ok (.aload_n 0, 1) := by decide +kernel
theorem dX3_mean_17 : decode cX3_mean 17 = .ok (.getfield 75, 3) := by decide +kernel
theorem dX3_mean_20 : decode cX3_mean 20 = .ok (.if_icmp .ge 21, 3) := by decide +kernel
theorem dX3_mean_23 : decode cX3_mean 23 = .ok (.iload_n 2, 1) := by decide +kernel
theorem dX3_mean_24 : decode cX3_mean 24 = .ok (.aload_n 0, 1) := by decide +kernel
theorem dX3_mean_25 : decode cX3_mean 25 = .ok (.getfield 21, 3) := by decide +kernel
theorem dX3_mean_28 : decode cX3_mean 28 = .ok (.iload_n 3, 1) := by decide +kernel
theorem dX3_mean_29 : decode cX3_mean 29 = .ok (.aaload, 1) := by decide +kernel
theorem dX3_mean_30 : decode cX3_mean 30 = .ok (.invokevirtual 180, 3) := by decide +kernel
theorem dX3_mean_33 : decode cX3_mean 33 = .ok (.iadd, 1) := by decide +kernel
theorem dX3_mean_34 : decode cX3_mean 34 = .ok (.istore_n 2, 1) := by decide +kernel
theorem dX3_mean_35 : decode cX3_mean 35 = .ok (.iinc 3 1, 3) := by decide +kernel
theorem dX3_mean_38 : decode cX3_mean 38 = .ok (.goto (-23), 3) := by decide +kernel
theorem dX3_mean_41 : decode cX3_mean 41 = .ok (.iload_n 2, 1) := by decide +kernel
theorem dX3_mean_42 : decode cX3_mean 42 = .ok (.i2d, 1) := by decide +kernel
theorem dX3_mean_43 : decode cX3_mean 43 = .ok (.iload_n 1, 1) := by decide +kernel
theorem dX3_mean_44 : decode cX3_mean 44 = .ok (.i2d, 1) := by decide +kernel
theorem dX3_mean_45 : decode cX3_mean 45 = .ok (.ddiv, 1) := by decide +kernel
theorem dX3_mean_46 : decode cX3_mean 46 = .ok (.dreturn, 1) := by decide +kernel
set_option maxRecDepth 20000 in
theorem ggX3_digest_X3_count : GoodIn wsX3_digest wsX3_count := goodIn_ca (goodIn_r _ [10, 11, 12, 13, 3, 4, 14, 5, 15, 16, 9, 17, 18, 19, 20, 21, 2, 22, 23, 24, 25, 26, 27, 28, 29, 30, 31, 32, 33, 34, 35, 36, 37, 38, 39, 40, 41, 129, 130, 131, 132, 133, 134, 135, 136, 137, 138, 139, 140, 141, 142, 143, 144, 145, 146, 147] (by decide +kernel) (by decide +kernel)) (goodIn_sub (fun _ h => List.mem_cons_of_mem _ (List.mem_append_right _ h)) (by decide +kernel))
set_option maxRecDepth 20000 in
theorem gX3_digest_X3_count : GoodIn wsX3_digest (wsV RX3 239 RX3 yX3_count wsX3_count) := goodIn_app (goodIn_of _ (by decide +kernel)) ggX3_digest_X3_count
set_option maxRecDepth 20000 in
theorem ggX3_digest_X3_mixed : GoodIn wsX3_digest wsX3_mixed := goodIn_r _ [44, 45] (by decide +kernel) (by decide +kernel)
set_option maxRecDepth 20000 in
theorem gX3_digest_X3_mixed : GoodIn wsX3_digest (va_wsS RX3 242 yX3_mixed wsX3_mixed) := goodIn_app (goodIn_of _ (by decide +kernel)) ggX3_digest_X3_mixed
set_option maxRecDepth 20000 in
theorem ggX3_digest_X3_withLayer : GoodIn wsX3_digest wsX3_withLayer := goodIn_ca (goodIn_r _ [49, 50, 51, 52, 9, 53, 11, 12, 41, 54, 55, 56, 57, 15, 16, 17, 58, 59, 60, 61, 62, 63, 64, 42, 43, 44, 45, 129, 130, 131, 132, 133, 134, 135, 136, 137, 138, 139, 140] (by decide +kernel) (by decide +kernel)) (goodIn_sub (fun _ h => List.mem_cons_of_mem _ (List.mem_append_right _ h)) (by decide +kernel))
set_option maxRecDepth 20000 in
theorem gX3_digest_X3_withLayer : GoodIn wsX3_digest (wsV RX3 246 RX3 yX3_withLayer wsX3_withLayer) := goodIn_app (goodIn_of _ (by decide +kernel)) ggX3_digest_X3_withLayer
set_option maxRecDepth 20000 in
theorem ggX3_digest_X3_withSledge : GoodIn wsX3_digest wsX3_withSledge := goodIn_ca (goodIn_r _ [68, 30, 69, 70, 71, 9, 72, 11, 12, 73, 74, 75, 76, 3, 15, 16, 17, 77, 78, 79, 80, 81, 82, 83, 84, 85, 86, 87, 63, 64, 42, 43, 44, 45, 129, 130, 131, 132, 133, 134, 135, 136, 137, 138, 139, 140, 143, 144, 145, 146, 147] (by decide +kernel) (by decide +kernel)) (goodIn_sub (fun _ h => List.mem_cons_of_mem _ (List.mem_append_right _ h)) (by decide +kernel))
set_option maxRecDepth 20000 in
theorem gX3_digest_X3_withSledge : GoodIn wsX3_digest (wsV RX3 249 RX3 yX3_withSledge wsX3_withSledge) := goodIn_app (goodIn_of _ (by decide +kernel)) ggX3_digest_X3_withSledge
set_option maxRecDepth 20000 in
theorem ggX3_digest_X3_withBoat : GoodIn wsX3_digest wsX3_withBoat := goodIn_ca (goodIn_r _ [91, 92, 93, 94, 9, 95, 11, 12, 96, 97, 98, 99, 100, 4, 15, 16, 17, 101, 102, 103, 104, 105, 106, 107, 108, 109, 110, 111, 112, 113, 114, 115, 116, 117, 118, 119, 120, 121, 122, 123, 124, 125, 126, 127, 128, 42, 43, 44, 45, 129, 130, 131, 132, 133, 134, 135, 136, 137, 138, 139, 140, 148, 149, 150] (by decide +kernel) (by decide +kernel)) (goodIn_sub (fun _ h => List.mem_cons_of_mem _ (List.mem_append_right _ h)) (by decide +kernel))
set_option maxRecDepth 20000 in
theorem gX3_digest_X3_withBoat : GoodIn wsX3_digest (wsV RX3 252 RX3 yX3_withBoat wsX3_withBoat) := goodIn_app (goodIn_of _ (by decide +kernel)) ggX3_digest_X3_withBoat
theorem dX3_digest_0 : decode cX3_digest 0 = .ok (.ldc2_w 237, 3) := by decide +kernel
theorem dX3_digest_3 : decode cX3_digest 3 = .ok (.lstore_n 1, 1) := by decide +kernel
theorem dX3_digest_4 : decode cX3_digest 4 = .ok (.iconst 0, 1) := by decide +kernel
theorem dX3_digest_5 : decode cX3_digest 5 = .ok (.istore_n 3, 1) := by decide +kernel
theorem dX3_digest_6 : decode cX3_digest 6 = .ok (.iload_n 3, 1) := by decide +kernel
theorem dX3_digest_7 : decode cX3_digest 7 = .ok (.bipush 9, 2) := by decide +kernel
theorem dX3_digest_9 : decode cX3_digest 9 = .ok (.if_icmp .ge 19, 3) := by decide +kernel
theorem dX3_digest_12 : decode cX3_digest 12 = .ok (.lload_n 1, 1) := by decide +kernel
theorem dX3_digest_13 : decode cX3_digest 13 = .ok (.aload_n 0, 1) := by decide +kernel
theorem dX3_digest_14 : decode cX3_digest 14 = .ok (.iload_n 3, 1) := by decide +kernel
theorem dX3_digest_15 : decode cX3_digest 15 = .ok (.invokevirtual 239, 3) := by decide +kernel
theorem dX3_digest_18 : decode cX3_digest 18 = .ok (.invokestatic 242, 3) := by decide +kernel
theorem dX3_digest_21 : decode cX3_digest 21 = .ok (.lstore_n 1, 1) := by decide +kernel
theorem dX3_digest_22 : decode cX3_digest 22 = .ok (.iinc 3 1, 3) := by decide +kernel
theorem dX3_digest_25 : decode cX3_digest 25 = .ok (.goto (-19), 3) := by decide +kernel
theorem dX3_digest_28 : decode cX3_digest 28 = .ok (.iconst 0, 1) := by decide +kernel
theorem dX3_digest_29 : decode cX3_digest 29 = .ok (.istore_n 3, 1) := by decide +kernel
theorem dX3_digest_30 : decode cX3_digest 30 = .ok (.iload_n 3, 1) := by decide +kernel
theorem dX3_digest_31 : decode cX3_digest 31 = .ok (.bipush 8, 2) := by decide +kernel
theorem dX3_digest_33 : decode cX3_digest 33 = .ok (.if_icmp .ge 20, 3) := by decide +kernel
theorem dX3_digest_36 : decode cX3_digest 36 = .ok (.lload_n 1, 1) := by decide +kernel
theorem dX3_digest_37 : decode cX3_digest 37 = .ok (.aload_n 0, 1) := by decide +kernel
theorem dX3_digest_38 : decode cX3_digest 38 = .ok (.getfield 16, 3) := by decide +kernel
theorem dX3_digest_41 : decode cX3_digest 41 = .ok (.iload_n 3, 1) := by decide +kernel
theorem dX3_digest_42 : decode cX3_digest 42 = .ok (.iaload, 1) := by decide +kernel
theorem dX3_digest_43 : decode cX3_digest 43 = .ok (.invokestatic 242, 3) := by decide +kernel
theorem dX3_digest_46 : decode cX3_digest 46 = .ok (.lstore_n 1, 1) := by decide +kernel
theorem dX3_digest_47 : decode cX3_digest 47 = .ok (.iinc 3 1, 3) := by decide +kernel
theorem dX3_digest_50 : decode cX3_digest 50 = .ok (.goto (-20), 3) := by decide +kernel
theorem dX3_digest_53 : decode cX3_digest 53 = .ok (.iconst 0, 1) := by decide +kernel
theorem dX3_digest_54 : decode cX3_digest 54 = .ok (.istore_n 3, 1) := by decide +kernel
theorem dX3_digest_55 : decode cX3_digest 55 = .ok (.iload_n 3, 1) := by decide +kernel
theorem dX3_digest_56 : decode cX3_digest 56 = .ok (.iconst 5, 1) := by decide +kernel
theorem dX3_digest_57 : decode cX3_digest 57 = .ok (.if_icmp .ge 16, 3) := by decide +kernel
theorem dX3_digest_60 : decode cX3_digest 60 = .ok (.aload_n 0, 1) := by decide +kernel
theorem dX3_digest_61 : decode cX3_digest 61 = .ok (.lload_n 1, 1) := by decide +kernel
theorem dX3_digest_62 : decode cX3_digest 62 = .ok (.iload_n 3, 1) := by decide +kernel
theorem dX3_digest_63 : decode cX3_digest 63 = .ok (.invokevirtual 246, 3) := by decide +kernel
theorem dX3_digest_66 : decode cX3_digest 66 = .ok (.lstore_n 1, 1) := by decide +kernel
theorem dX3_digest_67 : decode cX3_digest 67 = .ok (.iinc 3 1, 3) := by decide +kernel
theorem dX3_digest_70 : decode cX3_digest 70 = .ok (.goto (-15), 3) := by decide +kernel
theorem dX3_digest_73 : decode cX3_digest 73 = .ok (.iconst 0, 1) := by decide +kernel
theorem dX3_digest_74 : decode cX3_digest 74 = .ok (.istore_n 3, 1) := by decide +kernel
theorem dX3_digest_75 : decode cX3_digest 75 = .ok (.iload_n 3, 1) := by decide +kernel
theorem dX3_digest_76 : decode cX3_digest 76 = .ok (.aload_n 0, 1) := by decide +kernel
theorem dX3_digest_77 : decode cX3_digest 77 = .ok (.getfield 75, 3) := by decide +kernel
theorem dX3_digest_80 : decode cX3_digest 80 = .ok (.if_icmp .ge 16, 3) := by decide +kernel
theorem dX3_digest_83 : decode cX3_digest 83 = .ok (.aload_n 0, 1) := by decide +kernel
theorem dX3_digest_84 : decode cX3_digest 84 = .ok (.lload_n 1, 1) := by decide +kernel
theorem dX3_digest_85 : decode cX3_digest 85 = .ok (.iload_n 3, 1) := by decide +kernel
theorem dX3_digest_86 : decode cX3_digest 86 = .ok (.invokevirtual 249, 3) := by decide +kernel
theorem dX3_digest_89 : decode cX3_digest 89 = .ok (.lstore_n 1, 1) := by decide +kernel
theorem dX3_digest_90 : decode cX3_digest 90 = .ok (.iinc 3 1, 3) := by decide +kernel
theorem dX3_digest_93 : decode cX3_digest 93 = .ok (.goto (-18), 3) := by decide +kernel
theorem dX3_digest_96 : decode cX3_digest 96 = .ok (.iconst 0, 1) := by decide +kernel
theorem dX3_digest_97 : decode cX3_digest 97 = .ok (.istore_n 3, 1) := by decide +kernel
theorem dX3_digest_98 : decode cX3_digest 98 = .ok (.iload_n 3, 1) := by decide +kernel
theorem dX3_digest_99 : decode cX3_digest 99 = .ok (.aload_n 0, 1) := by decide +kernel
theorem dX3_digest_100 : decode cX3_digest 100 = .ok (.getfield 121, 3) := by decide +kernel
theorem dX3_digest_103 : decode cX3_digest 103 = .ok (.if_icmp .ge 16, 3) := by decide +kernel
theorem dX3_digest_106 : decode cX3_digest 106 = .ok (.aload_n 0, 1) := by decide +kernel
theorem dX3_digest_107 : decode cX3_digest 107 = .ok (.lload_n 1, 1) := by decide +kernel
theorem dX3_digest_108 : decode cX3_digest 108 = .ok (.iload_n 3, 1) := by decide +kernel
theorem dX3_digest_109 : decode cX3_digest 109 = .ok (.invokevirtual 252, 3) := by decide +kernel
theorem dX3_digest_112 : decode cX3_digest 112 = .ok (.lstore_n 1, 1) := by decide +kernel
theorem dX3_digest_113 : decode cX3_digest 113 = .ok (.iinc 3 1, 3) := by decide +kernel
theorem dX3_digest_116 : decode cX3_digest 116 = .ok (.goto (-18), 3) := by decide +kernel
theorem dX3_digest_119 : decode cX3_digest 119 = .ok (.iconst 0, 1) := by decide +kernel
theorem dX3_digest_120 : decode cX3_digest 120 = .ok (.istore_n 3, 1) := by decide +kernel
theorem dX3_digest_121 : decode cX3_digest 121 = .ok (.iload_n 3, 1) := by decide +kernel
theorem dX3_digest_122 : decode cX3_digest 122 = .ok (.iconst 3, 1) := by decide +kernel
theorem dX3_digest_123 : decode cX3_digest 123 = .ok (.if_icmp .ge 23, 3) := by decide +kernel
theorem dX3_digest_126 : decode cX3_digest 126 = .ok (.lload_n 1, 1) := by decide +kernel
theorem dX3_digest_127 : decode cX3_digest 127 = .ok (.aload_n 0, 1) := by decide +kernel
theorem dX3_digest_128 : decode cX3_digest 128 = .ok (.getfield 34, 3) := by decide +kernel
theorem dX3_digest_131 : decode cX3_digest 131 = .ok (.getfield 142, 3) := by decide +kernel
theorem dX3_digest_134 : decode cX3_digest 134 = .ok (.iload_n 3, 1) := by decide +kernel
theorem dX3_digest_135 : decode cX3_digest 135 = .ok (.iaload, 1) := by decide +kernel
theorem dX3_digest_136 : decode cX3_digest 136 = .ok (.invokestatic 242, 3) := by decide +kernel
theorem dX3_digest_139 : decode cX3_digest 139 = .ok (.lstore_n 1, 1) := by decide +kernel
theorem dX3_digest_140 : decode cX3_digest 140 = .ok (.iinc 3 1, 3) := by decide +kernel
theorem dX3_digest_143 : decode cX3_digest 143 = .ok (.goto (-22), 3) := by decide +kernel
theorem dX3_digest_146 : decode cX3_digest 146 = .ok (.lload_n 1, 1) := by decide +kernel
theorem dX3_digest_147 : decode cX3_digest 147 = .ok (.lreturn, 1) := by decide +kernel
set_option maxRecDepth 20000 in
theorem ggX3_withLayer_X3_layer : GoodIn wsX3_withLayer wsX3_layer := goodIn_ca (goodIn_r _ [5, 6, 7, 8, 9, 10, 11, 4, 12, 13, 14, 15, 16, 17, 18, 19, 20, 21, 22, 27, 28, 29, 30, 31, 32, 33, 34, 35, 36, 37, 38] (by decide +kernel) (by decide +kernel)) (goodIn_sub (fun _ h => List.mem_cons_of_mem _ (List.mem_append_right _ h)) (by decide +kernel))
set_option maxRecDepth 20000 in
theorem gX3_withLayer_X3_layer : GoodIn wsX3_withLayer (wsV RX3 255 RX3 yX3_layer wsX3_layer) := goodIn_app (goodIn_of _ (by decide +kernel)) ggX3_withLayer_X3_layer
set_option maxRecDepth 20000 in
theorem ggX3_withLayer_X3_mixed : GoodIn wsX3_withLayer wsX3_mixed := goodIn_r _ [25, 26] (by decide +kernel) (by decide +kernel)
set_option maxRecDepth 20000 in
theorem gX3_withLayer_X3_mixed : GoodIn wsX3_withLayer (va_wsS RX3 242 yX3_mixed wsX3_mixed) := goodIn_app (goodIn_of _ (by decide +kernel)) ggX3_withLayer_X3_mixed
theorem dX3_withLayer_0 : decode cX3_withLayer 0 = .ok (.iconst 0, 1) := by decide +kernel
theorem dX3_withLayer_1 : decode cX3_withLayer 1 = .ok (.istore 4, 2) := by decide +kernel
theorem dX3_withLayer_3 : decode cX3_withLayer 3 = .ok (.iload 4, 2) := by decide +kernel
theorem dX3_withLayer_5 : decode cX3_withLayer 5 = .ok (.iconst 4, 1) := by decide +kernel
theorem dX3_withLayer_6 : decode cX3_withLayer 6 = .ok (.if_icmp .ge 21, 3) := by decide +kernel
theorem dX3_withLayer_9 : decode cX3_withLayer 9 = .ok (.lload_n 1, 1) := by decide +kernel
theorem dX3_withLayer_10 : decode cX3_withLayer 10 = .ok (.aload_n 0, 1) := by decide +kernel
theorem dX3_withLayer_11 : decode cX3_withLayer 11 = .ok (.iload_n 3, 1) := by decide +kernel
theorem dX3_withLayer_12 : decode cX3_withLayer 12 = .ok (.iload 4, 2) := by decide +kernel
theorem dX3_withLayer_14 : decode cX3_withLayer 14 = .ok (.invokevirtual 255, 3) := by decide +kernel
theorem dX3_withLayer_17 : decode cX3_withLayer 17 = .ok (.invokestatic 242, 3) := by decide +kernel
theorem dX3_withLayer_20 : decode cX3_withLayer 20 = .ok (.lstore_n 1, 1) := by decide +kernel
theorem dX3_withLayer_21 : decode cX3_withLayer 21 = .ok (.iinc 4 1, 3) := by decide +kernel
theorem dX3_withLayer_24 : decode cX3_withLayer 24 = .ok (.goto (-21), 3) := by decide +kernel
theorem dX3_withLayer_27 : decode cX3_withLayer 27 = .ok (.lload_n 1, 1) := by decide +kernel
theorem dX3_withLayer_28 : decode cX3_withLayer 28 = .ok (.lreturn, 1) := by decide +kernel
set_option maxRecDepth 20000 in
theorem ggX3_withSledge_X3_told : GoodIn wsX3_withSledge wsX3_told := goodIn_ca (goodIn_r _ [6, 7, 8, 1, 9, 10, 11, 5, 12, 13, 14, 15, 16, 17, 18, 19, 20, 21, 22, 23, 24, 25, 26, 27, 28, 29, 34, 35, 36, 37, 38, 39, 40, 41, 42, 43, 44, 45, 46, 47, 48, 49, 50] (by decide +kernel) (by decide +kernel)) (goodIn_sub (fun _ h => List.mem_cons_of_mem _ (List.mem_append_right _ h)) (by decide +kernel))
set_option maxRecDepth 20000 in
theorem gX3_withSledge_X3_told : GoodIn wsX3_withSledge (wsV RX3 258 RX3 yX3_told wsX3_told) := goodIn_app (goodIn_of _ (by decide +kernel)) ggX3_withSledge_X3_told
set_option maxRecDepth 20000 in
theorem ggX3_withSledge_X3_mixed : GoodIn wsX3_withSledge wsX3_mixed := goodIn_r _ [32, 33] (by decide +kernel) (by decide +kernel)
set_option maxRecDepth 20000 in
theorem gX3_withSledge_X3_mixed : GoodIn wsX3_withSledge (va_wsS RX3 242 yX3_mixed wsX3_mixed) := goodIn_app (goodIn_of _ (by decide +kernel)) ggX3_withSledge_X3_mixed
theorem dX3_withSledge_0 : decode cX3_withSledge 0 = .ok (.iconst 0, 1) := by decide +kernel
theorem dX3_withSledge_1 : decode cX3_withSledge 1 = .ok (.istore 4, 2) := by decide +kernel
theorem dX3_withSledge_3 : decode cX3_withSledge 3 = .ok (.iload 4, 2) := by decide +kernel
theorem dX3_withSledge_5 : decode cX3_withSledge 5 = .ok (.bipush 6, 2) := by decide +kernel
theorem dX3_withSledge_7 : decode cX3_withSledge 7 = .ok (.if_icmp .ge 21, 3) := by decide +kernel
theorem dX3_withSledge_10 : decode cX3_withSledge 10 = .ok (.lload_n 1, 1) := by decide +kernel
theorem dX3_withSledge_11 : decode cX3_withSledge 11 = .ok (.aload_n 0, 1) := by decide +kernel
theorem dX3_withSledge_12 : decode cX3_withSledge 12 = .ok (.iload_n 3, 1) := by decide +kernel
theorem dX3_withSledge_13 : decode cX3_withSledge 13 = .ok (.iload 4, 2) := by decide +kernel
theorem dX3_withSledge_15 : decode cX3_withSledge 15 = .ok (.invokevirtual 258, 3) := by decide +kernel
theorem dX3_withSledge_18 : decode cX3_withSledge 18 = .ok (.invokestatic 242, 3) := by decide +kernel
theorem dX3_withSledge_21 : decode cX3_withSledge 21 = .ok (.lstore_n 1, 1) := by decide +kernel
theorem dX3_withSledge_22 : decode cX3_withSledge 22 = .ok (.iinc 4 1, 3) := by decide +kernel
theorem dX3_withSledge_25 : decode cX3_withSledge 25 = .ok (.goto (-22), 3) := by decide +kernel
theorem dX3_withSledge_28 : decode cX3_withSledge 28 = .ok (.aload_n 0, 1) := by decide +kernel
theorem dX3_withSledge_29 : decode cX3_withSledge 29 = .ok (.getfield 21, 3) := by decide +kernel
theorem dX3_withSledge_32 : decode cX3_withSledge 32 = .ok (.iload_n 3, 1) := by decide +kernel
theorem dX3_withSledge_33 : decode cX3_withSledge 33 = .ok (.aaload, 1) := by decide +kernel
theorem dX3_withSledge_34 : decode cX3_withSledge 34 = .ok (.astore 4, 2) := by decide +kernel
theorem dX3_withSledge_36 : decode cX3_withSledge 36 = .ok (.iconst 0, 1) := by decide +kernel
theorem dX3_withSledge_37 : decode cX3_withSledge 37 = .ok (.istore 5, 2) := by decide +kernel
theorem dX3_withSledge_39 : decode cX3_withSledge 39 = .ok (.iload 5, 2) := by decide +kernel
theorem dX3_withSledge_41 : decode cX3_withSledge 41 = .ok (.aload 4, 2) := by decide +kernel
theorem dX3_withSledge_43 : decode cX3_withSledge 43 = .ok (.getfield 116, 3) := by decide +kernel
theorem dX3_withSledge_46 : decode cX3_withSledge 46 = .ok (.if_icmp .ge 22, 3) := by decide +kernel
theorem dX3_withSledge_49 : decode cX3_withSledge 49 = .ok (.lload_n 1, 1) := by decide +kernel
theorem dX3_withSledge_50 : decode cX3_withSledge 50 = .ok (.aload 4, 2) := by decide +kernel
theorem dX3_withSledge_52 : decode cX3_withSledge 52 = .ok (.getfield 261, 3) := by decide +kernel
theorem dX3_withSledge_55 : decode cX3_withSledge 55 = .ok (.iload 5, 2) := by decide +kernel
theorem dX3_withSledge_57 : decode cX3_withSledge 57 = .ok (.iaload, 1) := by decide +kernel
theorem dX3_withSledge_58 : decode cX3_withSledge 58 = .ok (.invokestatic 242, 3) := by decide +kernel
theorem dX3_withSledge_61 : decode cX3_withSledge 61 = .ok (.lstore_n 1, 1) := by decide +kernel
theorem dX3_withSledge_62 : decode cX3_withSledge 62 = .ok (.iinc 5 1, 3) := by decide +kernel
theorem dX3_withSledge_65 : decode cX3_withSledge 65 = .ok (.goto (-26), 3) := by decide +kernel
theorem dX3_withSledge_68 : decode cX3_withSledge 68 = .ok (.lload_n 1, 1) := by decide +kernel
theorem dX3_withSledge_69 : decode cX3_withSledge 69 = .ok (.lreturn, 1) := by decide +kernel
set_option maxRecDepth 20000 in
theorem ggX3_withBoat_X3_boat : GoodIn wsX3_withBoat wsX3_boat := goodIn_ca (goodIn_r _ [5, 6, 7, 8, 9, 10, 11, 4, 12, 13, 14, 15, 16, 17, 18, 19, 20, 21, 22, 23, 24, 25, 26, 27, 28, 29, 30, 31, 32, 33, 34, 35, 36, 37, 38, 39, 40, 41, 42, 43, 44, 49, 50, 51, 52, 53, 54, 55, 56, 57, 58, 59, 60, 61, 62, 63] (by decide +kernel) (by decide +kernel)) (goodIn_sub (fun _ h => List.mem_cons_of_mem _ (List.mem_append_right _ h)) (by decide +kernel))
set_option maxRecDepth 20000 in
theorem gX3_withBoat_X3_boat : GoodIn wsX3_withBoat (wsV RX3 264 RX3 yX3_boat wsX3_boat) := goodIn_app (goodIn_of _ (by decide +kernel)) ggX3_withBoat_X3_boat
set_option maxRecDepth 20000 in
theorem ggX3_withBoat_X3_mixed : GoodIn wsX3_withBoat wsX3_mixed := goodIn_r _ [47, 48] (by decide +kernel) (by decide +kernel)
set_option maxRecDepth 20000 in
theorem gX3_withBoat_X3_mixed : GoodIn wsX3_withBoat (va_wsS RX3 242 yX3_mixed wsX3_mixed) := goodIn_app (goodIn_of _ (by decide +kernel)) ggX3_withBoat_X3_mixed
theorem dX3_withBoat_0 : decode cX3_withBoat 0 = .ok (.iconst 0, 1) := by decide +kernel
theorem dX3_withBoat_1 : decode cX3_withBoat 1 = .ok (.istore 4, 2) := by decide +kernel
theorem dX3_withBoat_3 : decode cX3_withBoat 3 = .ok (.iload 4, 2) := by decide +kernel
theorem dX3_withBoat_5 : decode cX3_withBoat 5 = .ok (.bipush 7, 2) := by decide +kernel
theorem dX3_withBoat_7 : decode cX3_withBoat 7 = .ok (.if_icmp .ge 21, 3) := by decide +kernel
theorem dX3_withBoat_10 : decode cX3_withBoat 10 = .ok (.lload_n 1, 1) := by decide +kernel
theorem dX3_withBoat_11 : decode cX3_withBoat 11 = .ok (.aload_n 0, 1) := by decide +kernel
theorem dX3_withBoat_12 : decode cX3_withBoat 12 = .ok (.iload_n 3, 1) := by decide +kernel
theorem dX3_withBoat_13 : decode cX3_withBoat 13 = .ok (.iload 4, 2) := by decide +kernel
theorem dX3_withBoat_15 : decode cX3_withBoat 15 = .ok (.invokevirtual 264, 3) := by decide +kernel
theorem dX3_withBoat_18 : decode cX3_withBoat 18 = .ok (.invokestatic 242, 3) := by decide +kernel
theorem dX3_withBoat_21 : decode cX3_withBoat 21 = .ok (.lstore_n 1, 1) := by decide +kernel
theorem dX3_withBoat_22 : decode cX3_withBoat 22 = .ok (.iinc 4 1, 3) := by decide +kernel
theorem dX3_withBoat_25 : decode cX3_withBoat 25 = .ok (.goto (-22), 3) := by decide +kernel
theorem dX3_withBoat_28 : decode cX3_withBoat 28 = .ok (.lload_n 1, 1) := by decide +kernel
theorem dX3_withBoat_29 : decode cX3_withBoat 29 = .ok (.lreturn, 1) := by decide +kernel
theorem dX3_mixed_0 : decode cX3_mixed 0 = .ok (.lload_n 0, 1) := by decide +kernel
theorem dX3_mixed_1 : decode cX3_mixed 1 = .ok (.ldc2_w 267, 3) := by decide +kernel
theorem dX3_mixed_4 : decode cX3_mixed 4 = .ok (.lmul, 1) := by decide +kernel
theorem dX3_mixed_5 : decode cX3_mixed 5 = .ok (.iload_n 2, 1) := by decide +kernel
theorem dX3_mixed_6 : decode cX3_mixed 6 = .ok (.i2l, 1) := by decide +kernel
theorem dX3_mixed_7 : decode cX3_mixed 7 = .ok (.ladd, 1) := by decide +kernel
theorem dX3_mixed_8 : decode cX3_mixed 8 = .ok (.lreturn, 1) := by decide +kernel
set_option maxRecDepth 20000 in
theorem ggX3_passOneHour_X3_gustAt : GoodIn wsX3_passOneHour wsX3_gustAt := goodIn_r _ [9, 10, 11, 12, 13, 14, 45, 46, 47, 48, 49, 50, 51, 52, 53, 54, 55, 56] (by decide +kernel) (by decide +kernel)
set_option maxRecDepth 20000 in
theorem gX3_passOneHour_X3_gustAt : GoodIn wsX3_passOneHour (wsV RX3 196 RX3 yX3_gustAt wsX3_gustAt) := goodIn_app (goodIn_of _ (by decide +kernel)) ggX3_passOneHour_X3_gustAt
set_option maxRecDepth 20000 in
theorem ggX3_passOneHour_X2_travel : GoodIn wsX3_passOneHour wsX2_travel := goodIn_r _ [19, 20, 21, 22, 23, 18, 24, 25, 26, 27, 28, 29, 30, 31, 32, 33, 34, 35, 36, 8, 37, 38, 39, 40, 41, 42, 43, 44, 57, 58, 59, 60, 61, 62, 63] (by decide +kernel) (by decide +kernel)
set_option maxRecDepth 20000 in
theorem gX3_passOneHour_X2_travel : GoodIn wsX3_passOneHour (wsV RX3 220 RX2 yX2_travel wsX2_travel) := goodIn_app (goodIn_of _ (by decide +kernel)) ggX3_passOneHour_X2_travel
theorem dX3_passOneHour_0 : decode cX3_passOneHour 0 = .ok (.aload_n 0, 1) := by decide +kernel
theorem dX3_passOneHour_1 : decode cX3_passOneHour 1 = .ok (.aload_n 0, 1) := by decide +kernel
theorem dX3_passOneHour_2 : decode cX3_passOneHour 2 = .ok (.getfield 193, 3) := by decide +kernel
theorem dX3_passOneHour_5 : decode cX3_passOneHour 5 = .ok (.invokevirtual 196, 3) := by decide +kernel
theorem dX3_passOneHour_8 : decode cX3_passOneHour 8 = .ok (.istore_n 1, 1) := by decide +kernel
theorem dX3_passOneHour_9 : decode cX3_passOneHour 9 = .ok (.iconst 0, 1) := by decide +kernel
theorem dX3_passOneHour_10 : decode cX3_passOneHour 10 = .ok (.istore_n 2, 1) := by decide +kernel
theorem dX3_passOneHour_11 : decode cX3_passOneHour 11 = .ok (.iload_n 2, 1) := by decide +kernel
theorem dX3_passOneHour_12 : decode cX3_passOneHour 12 = .ok (.aload_n 0, 1) := by decide +kernel
theorem dX3_passOneHour_13 : decode cX3_passOneHour 13 = .ok (.getfield 75, 3) := by decide +kernel
theorem dX3_passOneHour_16 : decode cX3_passOneHour 16 = .ok (.if_icmp .ge 23, 3) := by decide +kernel
theorem dX3_passOneHour_19 : decode cX3_passOneHour 19 = .ok (.aload_n 0, 1) := by decide +kernel
theorem dX3_passOneHour_20 : decode cX3_passOneHour 20 = .ok (.getfield 21, 3) := by decide +kernel
theorem dX3_passOneHour_23 : decode cX3_passOneHour 23 = .ok (.iload_n 2, 1) := by decide +kernel
theorem dX3_passOneHour_24 : decode cX3_passOneHour 24 = .ok (.aaload, 1) := by decide +kernel
theorem dX3_passOneHour_25 : decode cX3_passOneHour 25 = .ok (.iload_n 1, 1) := by decide +kernel
theorem dX3_passOneHour_26 : decode cX3_passOneHour 26 = .ok (.aload_n 0, 1) := by decide +kernel
theorem dX3_passOneHour_27 : decode cX3_passOneHour 27 = .ok (.getfield 34, 3) := by decide +kernel
theorem dX3_passOneHour_30 : decode cX3_passOneHour 30 = .ok (.invokevirtual 220, 3) := by decide +kernel
theorem dX3_passOneHour_33 : decode cX3_passOneHour 33 = .ok (.iinc 2 1, 3) := by decide +kernel
theorem dX3_passOneHour_36 : decode cX3_passOneHour 36 = .ok (.goto (-25), 3) := by decide +kernel
theorem dX3_passOneHour_39 : decode cX3_passOneHour 39 = .ok (.aload_n 0, 1) := by decide +kernel
theorem dX3_passOneHour_40 : decode cX3_passOneHour 40 = .ok (.dup, 1) := by decide +kernel
theorem dX3_passOneHour_41 : decode cX3_passOneHour 41 = .ok (.getfield 193, 3) := by decide +kernel
theorem dX3_passOneHour_44 : decode cX3_passOneHour 44 = .ok (.iconst 1, 1) := by decide +kernel
theorem dX3_passOneHour_45 : decode cX3_passOneHour 45 = .ok (.iadd, 1) := by decide +kernel
theorem dX3_passOneHour_46 : decode cX3_passOneHour 46 = .ok (.putfield 193, 3) := by decide +kernel
theorem dX3_passOneHour_49 : decode cX3_passOneHour 49 = .ok (.return_, 1) := by decide +kernel
set_option maxRecDepth 20000 in
theorem ggX3_aboardBehind_X2_become : GoodIn wsX3_aboardBehind wsX2_become := goodIn_r _ [8, 9, 10, 11, 12, 13, 14, 15, 16, 17, 65, 66, 67, 68, 69] (by decide +kernel) (by decide +kernel)
set_option maxRecDepth 20000 in
theorem gX3_aboardBehind_X2_become : GoodIn wsX3_aboardBehind (wsV RX3 216 RX2 yX2_become wsX2_become) := goodIn_app (goodIn_of _ (by decide +kernel)) ggX3_aboardBehind_X2_become
set_option maxRecDepth 20000 in
theorem ggX3_aboardBehind_X3_gustAt : GoodIn wsX3_aboardBehind wsX3_gustAt := goodIn_r _ [22, 23, 24, 25, 26, 27, 53, 54, 55, 56, 57, 58, 59, 60, 61, 62, 63, 64] (by decide +kernel) (by decide +kernel)
set_option maxRecDepth 20000 in
theorem gX3_aboardBehind_X3_gustAt : GoodIn wsX3_aboardBehind (wsV RX3 196 RX3 yX3_gustAt wsX3_gustAt) := goodIn_app (goodIn_of _ (by decide +kernel)) ggX3_aboardBehind_X3_gustAt
set_option maxRecDepth 20000 in
theorem ggX3_aboardBehind_X2_travel : GoodIn wsX3_aboardBehind wsX2_travel := goodIn_r _ [31, 17, 32, 33, 34, 7, 35, 15, 16, 36, 37, 38, 39, 40, 41, 42, 43, 10, 44, 21, 45, 46, 47, 48, 49, 50, 51, 52, 65, 66, 67, 68, 69, 70, 71] (by decide +kernel) (by decide +kernel)
set_option maxRecDepth 20000 in
theorem gX3_aboardBehind_X2_travel : GoodIn wsX3_aboardBehind (wsV RX3 220 RX2 yX2_travel wsX2_travel) := goodIn_app (goodIn_of _ (by decide +kernel)) ggX3_aboardBehind_X2_travel
theorem dX3_aboardBehind_0 : decode cX3_aboardBehind 0 = .ok (.aload_n 0, 1) := by decide +kernel
theorem dX3_aboardBehind_1 : decode cX3_aboardBehind 1 = .ok (.getfield 39, 3) := by decide +kernel
theorem dX3_aboardBehind_4 : decode cX3_aboardBehind 4 = .ok (.aload_n 2, 1) := by decide +kernel
theorem dX3_aboardBehind_5 : decode cX3_aboardBehind 5 = .ok (.invokevirtual 216, 3) := by decide +kernel
theorem dX3_aboardBehind_8 : decode cX3_aboardBehind 8 = .ok (.iconst 0, 1) := by decide +kernel
theorem dX3_aboardBehind_9 : decode cX3_aboardBehind 9 = .ok (.istore_n 3, 1) := by decide +kernel
theorem dX3_aboardBehind_10 : decode cX3_aboardBehind 10 = .ok (.iload_n 3, 1) := by decide +kernel
theorem dX3_aboardBehind_11 : decode cX3_aboardBehind 11 = .ok (.iload_n 1, 1) := by decide +kernel
theorem dX3_aboardBehind_12 : decode cX3_aboardBehind 12 = .ok (.if_icmp .ge 30, 3) := by decide +kernel
theorem dX3_aboardBehind_15 : decode cX3_aboardBehind 15 = .ok (.aload_n 0, 1) := by decide +kernel
theorem dX3_aboardBehind_16 : decode cX3_aboardBehind 16 = .ok (.getfield 39, 3) := by decide +kernel
theorem dX3_aboardBehind_19 : decode cX3_aboardBehind 19 = .ok (.aload_n 0, 1) := by decide +kernel
theorem dX3_aboardBehind_20 : decode cX3_aboardBehind 20 = .ok (.aload_n 0, 1) := by decide +kernel
theorem dX3_aboardBehind_21 : decode cX3_aboardBehind 21 = .ok (.getfield 193, 3) := by decide +kernel
theorem dX3_aboardBehind_24 : decode cX3_aboardBehind 24 = .ok (.iload_n 3, 1) := by decide +kernel
theorem dX3_aboardBehind_25 : decode cX3_aboardBehind 25 = .ok (.iadd, 1) := by decide +kernel
theorem dX3_aboardBehind_26 : decode cX3_aboardBehind 26 = .ok (.invokevirtual 196, 3) := by decide +kernel
theorem dX3_aboardBehind_29 : decode cX3_aboardBehind 29 = .ok (.aload_n 0, 1) := by decide +kernel
theorem dX3_aboardBehind_30 : decode cX3_aboardBehind 30 = .ok (.getfield 43, 3) := by decide +kernel
theorem dX3_aboardBehind_33 : decode cX3_aboardBehind 33 = .ok (.invokevirtual 220, 3) := by decide +kernel
theorem dX3_aboardBehind_36 : decode cX3_aboardBehind 36 = .ok (.iinc 3 1, 3) := by decide +kernel
theorem dX3_aboardBehind_39 : decode cX3_aboardBehind 39 = .ok (.goto (-29), 3) := by decide +kernel
theorem dX3_aboardBehind_42 : decode cX3_aboardBehind 42 = .ok (.aload_n 0, 1) := by decide +kernel
theorem dX3_aboardBehind_43 : decode cX3_aboardBehind 43 = .ok (.getfield 39, 3) := by decide +kernel
theorem dX3_aboardBehind_46 : decode cX3_aboardBehind 46 = .ok (.getfield 116, 3) := by decide +kernel
theorem dX3_aboardBehind_49 : decode cX3_aboardBehind 49 = .ok (.ireturn, 1) := by decide +kernel
set_option maxRecDepth 20000 in
theorem ggX3_gustAt_J9_floorMod_7cf53 : GoodIn wsX3_gustAt wsJ9_floorMod_7cf53 := goodIn_r _ [5] (by decide +kernel) (by decide +kernel)
set_option maxRecDepth 20000 in
theorem gX3_gustAt_J9_floorMod_7cf53 : GoodIn wsX3_gustAt (va_wsS RX3 269 yJ9_floorMod_7cf53 wsJ9_floorMod_7cf53) := goodIn_app (goodIn_of _ (by decide +kernel)) ggX3_gustAt_J9_floorMod_7cf53
theorem dX3_gustAt_0 : decode cX3_gustAt 0 = .ok (.aload_n 0, 1) := by decide +kernel
theorem dX3_gustAt_1 : decode cX3_gustAt 1 = .ok (.getfield 16, 3) := by decide +kernel
theorem dX3_gustAt_4 : decode cX3_gustAt 4 = .ok (.iload_n 1, 1) := by decide +kernel
theorem dX3_gustAt_5 : decode cX3_gustAt 5 = .ok (.bipush 8, 2) := by decide +kernel
theorem dX3_gustAt_7 : decode cX3_gustAt 7 = .ok (.invokestatic 269, 3) := by decide +kernel
theorem dX3_gustAt_10 : decode cX3_gustAt 10 = .ok (.iaload, 1) := by decide +kernel
theorem dX3_gustAt_11 : decode cX3_gustAt 11 = .ok (.ireturn, 1) := by decide +kernel
theorem dX3_sacksAboard_0 : decode cX3_sacksAboard 0 = .ok (.iconst 0, 1) := by decide +kernel
theorem dX3_sacksAboard_1 : decode cX3_sacksAboard 1 = .ok (.istore_n 1, 1) := by decide +kernel
theorem dX3_sacksAboard_2 : decode cX3_sacksAboard 2 = .ok (.iconst 0, 1) := by decide +kernel
theorem dX3_sacksAboard_3 : decode cX3_sacksAboard 3 = .ok (.istore_n 2, 1) := by decide +kernel
theorem dX3_sacksAboard_4 : decode cX3_sacksAboard 4 = .ok (.iload_n 2, 1) := by decide +kernel
theorem dX3_sacksAboard_5 : decode cX3_sacksAboard 5 = .ok (.aload_n 0, 1) := by decide +kernel
theorem dX3_sacksAboard_6 : decode cX3_sacksAboard 6 = .ok (.getfield 75, 3) := by decide +kernel
theorem dX3_sacksAboard_9 : decode cX3_sacksAboard 9 = .ok (.if_icmp .ge 21, 3) := by decide +kernel
theorem dX3_sacksAboard_12 : decode cX3_sacksAboard 12 = .ok (.iload_n 1, 1) := by decide +kernel
theorem dX3_sacksAboard_13 : decode cX3_sacksAboard 13 = .ok (.aload_n 0, 1) := by decide +kernel
theorem dX3_sacksAboard_14 : decode cX3_sacksAboard 14 = .ok (.getfield 21, 3) := by decide +kernel
theorem dX3_sacksAboard_17 : decode cX3_sacksAboard 17 = .ok (.iload_n 2, 1) := by decide +kernel
theorem dX3_sacksAboard_18 : decode cX3_sacksAboard 18 = .ok (.aaload, 1) := by decide +kernel
theorem dX3_sacksAboard_19 : decode cX3_sacksAboard 19 = .ok (.getfield 116, 3) := by decide +kernel
theorem dX3_sacksAboard_22 : decode cX3_sacksAboard 22 = .ok (.iadd, 1) := by decide +kernel
theorem dX3_sacksAboard_23 : decode cX3_sacksAboard 23 = .ok (.istore_n 1, 1) := by decide +kernel
theorem dX3_sacksAboard_24 : decode cX3_sacksAboard 24 = .ok (.iinc 2 1, 3) := by decide +kernel
theorem dX3_sacksAboard_27 : decode cX3_sacksAboard 27 = .ok (.goto (-23), 3) := by decide +kernel
theorem dX3_sacksAboard_30 : decode cX3_sacksAboard 30 = .ok (.iload_n 1, 1) := by decide +kernel
theorem dX3_sacksAboard_31 : decode cX3_sacksAboard 31 = .ok (.ireturn, 1) := by decide +kernel
theorem dX3_allStones_0 : decode cX3_allStones 0 = .ok (.iconst 0, 1) := by decide +kernel
theorem dX3_allStones_1 : decode cX3_allStones 1 = .ok (.istore_n 1, 1) := by decide +kernel
theorem dX3_allStones_2 : decode cX3_allStones 2 = .ok (.iconst 0, 1) := by decide +kernel
theorem dX3_allStones_3 : decode cX3_allStones 3 = .ok (.istore_n 2, 1) := by decide +kernel
theorem dX3_allStones_4 : decode cX3_allStones 4 = .ok (.iload_n 2, 1) := by decide +kernel
theorem dX3_allStones_5 : decode cX3_allStones 5 = .ok (.iconst 5, 1) := by decide +kernel
theorem dX3_allStones_6 : decode cX3_allStones 6 = .ok (.if_icmp .ge 18, 3) := by decide +kernel
theorem dX3_allStones_9 : decode cX3_allStones 9 = .ok (.iload_n 1, 1) := by decide +kernel
theorem dX3_allStones_10 : decode cX3_allStones 10 = .ok (.aload_n 0, 1) := by decide +kernel
theorem dX3_allStones_11 : decode cX3_allStones 11 = .ok (.getfield 9, 3) := by decide +kernel
theorem dX3_allStones_14 : decode cX3_allStones 14 = .ok (.iload_n 2, 1) := by decide +kernel
theorem dX3_allStones_15 : decode cX3_allStones 15 = .ok (.iaload, 1) := by decide +kernel
theorem dX3_allStones_16 : decode cX3_allStones 16 = .ok (.iadd, 1) := by decide +kernel
theorem dX3_allStones_17 : decode cX3_allStones 17 = .ok (.istore_n 1, 1) := by decide +kernel
theorem dX3_allStones_18 : decode cX3_allStones 18 = .ok (.iinc 2 1, 3) := by decide +kernel
theorem dX3_allStones_21 : decode cX3_allStones 21 = .ok (.goto (-17), 3) := by decide +kernel
theorem dX3_allStones_24 : decode cX3_allStones 24 = .ok (.iload_n 1, 1) := by decide +kernel
theorem dX3_allStones_25 : decode cX3_allStones 25 = .ok (.ireturn, 1) := by decide +kernel
theorem dX3_sackWeight_0 : decode cX3_sackWeight 0 = .ok (.bipush 10, 2) := by decide +kernel
theorem dX3_sackWeight_2 : decode cX3_sackWeight 2 = .ok (.aload_n 0, 1) := by decide +kernel
theorem dX3_sackWeight_3 : decode cX3_sackWeight 3 = .ok (.getfield 13, 3) := by decide +kernel
theorem dX3_sackWeight_6 : decode cX3_sackWeight 6 = .ok (.iload_n 1, 1) := by decide +kernel
theorem dX3_sackWeight_7 : decode cX3_sackWeight 7 = .ok (.iaload, 1) := by decide +kernel
theorem dX3_sackWeight_8 : decode cX3_sackWeight 8 = .ok (.imul, 1) := by decide +kernel
theorem dX3_sackWeight_9 : decode cX3_sackWeight 9 = .ok (.ireturn, 1) := by decide +kernel
theorem dX3_isSledge_0 : decode cX3_isSledge 0 = .ok (.iload_n 1, 1) := by decide +kernel
theorem dX3_isSledge_1 : decode cX3_isSledge 1 = .ok (.ifCond .lt 15, 3) := by decide +kernel
theorem dX3_isSledge_4 : decode cX3_isSledge 4 = .ok (.iload_n 1, 1) := by decide +kernel
theorem dX3_isSledge_5 : decode cX3_isSledge 5 = .ok (.aload_n 0, 1) := by decide +kernel
theorem dX3_isSledge_6 : decode cX3_isSledge 6 = .ok (.getfield 75, 3) := by decide +kernel
theorem dX3_isSledge_9 : decode cX3_isSledge 9 = .ok (.if_icmp .ge 7, 3) := by decide +kernel
theorem dX3_isSledge_12 : decode cX3_isSledge 12 = .ok (.iconst 1, 1) := by decide +kernel
theorem dX3_isSledge_13 : decode cX3_isSledge 13 = .ok (.goto 4, 3) := by decide +kernel
theorem dX3_isSledge_16 : decode cX3_isSledge 16 = .ok (.iconst 0, 1) := by decide +kernel
theorem dX3_isSledge_17 : decode cX3_isSledge 17 = .ok (.ireturn, 1) := by decide +kernel
theorem dX3_isBoat_0 : decode cX3_isBoat 0 = .ok (.iload_n 1, 1) := by decide +kernel
theorem dX3_isBoat_1 : decode cX3_isBoat 1 = .ok (.ifCond .lt 15, 3) := by decide +kernel
theorem dX3_isBoat_4 : decode cX3_isBoat 4 = .ok (.iload_n 1, 1) := by decide +kernel
theorem dX3_isBoat_5 : decode cX3_isBoat 5 = .ok (.aload_n 0, 1) := by decide +kernel
theorem dX3_isBoat_6 : decode cX3_isBoat 6 = .ok (.getfield 121, 3) := by decide +kernel
theorem dX3_isBoat_9 : decode cX3_isBoat 9 = .ok (.if_icmp .ge 7, 3) := by decide +kernel
theorem dX3_isBoat_12 : decode cX3_isBoat 12 = .ok (.iconst 1, 1) := by decide +kernel
theorem dX3_isBoat_13 : decode cX3_isBoat 13 = .ok (.goto 4, 3) := by decide +kernel
theorem dX3_isBoat_16 : decode cX3_isBoat 16 = .ok (.iconst 0, 1) := by decide +kernel
theorem dX3_isBoat_17 : decode cX3_isBoat 17 = .ok (.ireturn, 1) := by decide +kernel
set_option maxRecDepth 20000 in
theorem ggX3_isLayer_X3_isWithin : GoodIn wsX3_isLayer wsX3_isWithin := goodIn_r _ [4] (by decide +kernel) (by decide +kernel)
set_option maxRecDepth 20000 in
theorem gX3_isLayer_X3_isWithin : GoodIn wsX3_isLayer (va_wsS RX3 58 yX3_isWithin wsX3_isWithin) := goodIn_app (goodIn_of _ (by decide +kernel)) ggX3_isLayer_X3_isWithin
theorem dX3_isLayer_0 : decode cX3_isLayer 0 = .ok (.iload_n 0, 1) := by decide +kernel
theorem dX3_isLayer_1 : decode cX3_isLayer 1 = .ok (.iconst 0, 1) := by decide +kernel
theorem dX3_isLayer_2 : decode cX3_isLayer 2 = .ok (.iconst 4, 1) := by decide +kernel
theorem dX3_isLayer_3 : decode cX3_isLayer 3 = .ok (.invokestatic 58, 3) := by decide +kernel
theorem dX3_isLayer_6 : decode cX3_isLayer 6 = .ok (.ireturn, 1) := by decide +kernel
set_option maxRecDepth 20000 in
theorem ggX3_isKind_X3_isWithin : GoodIn wsX3_isKind wsX3_isWithin := goodIn_r _ [4] (by decide +kernel) (by decide +kernel)
set_option maxRecDepth 20000 in
theorem gX3_isKind_X3_isWithin : GoodIn wsX3_isKind (va_wsS RX3 58 yX3_isWithin wsX3_isWithin) := goodIn_app (goodIn_of _ (by decide +kernel)) ggX3_isKind_X3_isWithin
theorem dX3_isKind_0 : decode cX3_isKind 0 = .ok (.iload_n 0, 1) := by decide +kernel
theorem dX3_isKind_1 : decode cX3_isKind 1 = .ok (.iconst 0, 1) := by decide +kernel
theorem dX3_isKind_2 : decode cX3_isKind 2 = .ok (.iconst 2, 1) := by decide +kernel
theorem dX3_isKind_3 : decode cX3_isKind 3 = .ok (.invokestatic 58, 3) := by decide +kernel
theorem dX3_isKind_6 : decode cX3_isKind 6 = .ok (.ireturn, 1) := by decide +kernel
theorem dX3_isWithin_0 : decode cX3_isWithin 0 = .ok (.iload_n 0, 1) := by decide +kernel
theorem dX3_isWithin_1 : decode cX3_isWithin 1 = .ok (.iload_n 1, 1) := by decide +kernel
theorem dX3_isWithin_2 : decode cX3_isWithin 2 = .ok (.if_icmp .lt 12, 3) := by decide +kernel
theorem dX3_isWithin_5 : decode cX3_isWithin 5 = .ok (.iload_n 0, 1) := by decide +kernel
theorem dX3_isWithin_6 : decode cX3_isWithin 6 = .ok (.iload_n 2, 1) := by decide +kernel
theorem dX3_isWithin_7 : decode cX3_isWithin 7 = .ok (.if_icmp .gt 7, 3) := by decide +kernel
theorem dX3_isWithin_10 : decode cX3_isWithin 10 = .ok (.iconst 1, 1) := by decide +kernel
theorem dX3_isWithin_11 : decode cX3_isWithin 11 = .ok (.goto 4, 3) := by decide +kernel
theorem dX3_isWithin_14 : decode cX3_isWithin 14 = .ok (.iconst 0, 1) := by decide +kernel
theorem dX3_isWithin_15 : decode cX3_isWithin 15 = .ok (.ireturn, 1) := by decide +kernel
theorem dX3_kindOf_0 : decode cX3_kindOf 0 = .ok (.iload_n 0, 1) := by decide +kernel
theorem dX3_kindOf_1 : decode cX3_kindOf 1 = .ok (.bipush 30, 2) := by decide +kernel
theorem dX3_kindOf_3 : decode cX3_kindOf 3 = .ok (.if_icmp .gt 5, 3) := by decide +kernel
theorem dX3_kindOf_6 : decode cX3_kindOf 6 = .ok (.iconst 2, 1) := by decide +kernel
theorem dX3_kindOf_7 : decode cX3_kindOf 7 = .ok (.ireturn, 1) := by decide +kernel
theorem dX3_kindOf_8 : decode cX3_kindOf 8 = .ok (.iload_n 0, 1) := by decide +kernel
theorem dX3_kindOf_9 : decode cX3_kindOf 9 = .ok (.bipush 60, 2) := by decide +kernel
theorem dX3_kindOf_11 : decode cX3_kindOf 11 = .ok (.if_icmp .gt 7, 3) := by decide +kernel
theorem dX3_kindOf_14 : decode cX3_kindOf 14 = .ok (.iconst 1, 1) := by decide +kernel
theorem dX3_kindOf_15 : decode cX3_kindOf 15 = .ok (.goto 4, 3) := by decide +kernel
theorem dX3_kindOf_18 : decode cX3_kindOf 18 = .ok (.iconst 0, 1) := by decide +kernel
theorem dX3_kindOf_19 : decode cX3_kindOf 19 = .ok (.ireturn, 1) := by decide +kernel
theorem dX3_stowedWeight_0 : decode cX3_stowedWeight 0 = .ok (.iload_n 0, 1) := by decide +kernel
theorem dX3_stowedWeight_1 : decode cX3_stowedWeight 1 = .ok (.lookupswitch 33 #[(1, 30), (2, 27)], 27) := by decide +kernel
theorem dX3_stowedWeight_28 : decode cX3_stowedWeight 28 = .ok (.bipush 20, 2) := by decide +kernel
theorem dX3_stowedWeight_30 : decode cX3_stowedWeight 30 = .ok (.ireturn, 1) := by decide +kernel
theorem dX3_stowedWeight_31 : decode cX3_stowedWeight 31 = .ok (.bipush 50, 2) := by decide +kernel
theorem dX3_stowedWeight_33 : decode cX3_stowedWeight 33 = .ok (.ireturn, 1) := by decide +kernel
theorem dX3_stowedWeight_34 : decode cX3_stowedWeight 34 = .ok (.bipush 80, 2) := by decide +kernel
theorem dX3_stowedWeight_36 : decode cX3_stowedWeight 36 = .ok (.ireturn, 1) := by decide +kernel
theorem dX3_depthOf_0 : decode cX3_depthOf 0 = .ok (.iload_n 0, 1) := by decide +kernel
theorem dX3_depthOf_1 : decode cX3_depthOf 1 = .ok (.iload_n 1, 1) := by decide +kernel
theorem dX3_depthOf_2 : decode cX3_depthOf 2 = .ok (.iadd, 1) := by decide +kernel
theorem dX3_depthOf_3 : decode cX3_depthOf 3 = .ok (.bipush 50, 2) := by decide +kernel
theorem dX3_depthOf_5 : decode cX3_depthOf 5 = .ok (.idiv, 1) := by decide +kernel
theorem dX3_depthOf_6 : decode cX3_depthOf 6 = .ok (.iload_n 0, 1) := by decide +kernel
theorem dX3_depthOf_7 : decode cX3_depthOf 7 = .ok (.iload_n 1, 1) := by decide +kernel
theorem dX3_depthOf_8 : decode cX3_depthOf 8 = .ok (.isub, 1) := by decide +kernel
theorem dX3_depthOf_9 : decode cX3_depthOf 9 = .ok (.invokestatic 274, 3) := by decide +kernel
theorem dX3_depthOf_12 : decode cX3_depthOf 12 = .ok (.bipush 40, 2) := by decide +kernel
theorem dX3_depthOf_14 : decode cX3_depthOf 14 = .ok (.idiv, 1) := by decide +kernel
theorem dX3_depthOf_15 : decode cX3_depthOf 15 = .ok (.iadd, 1) := by decide +kernel
theorem dX3_depthOf_16 : decode cX3_depthOf 16 = .ok (.ireturn, 1) := by decide +kernel
end
section
theorem dX4_init_0 : decode cX4_init 0 = .ok (.aload_n 0, 1) := by decide +kernel
theorem dX4_init_1 : decode cX4_init 1 = .ok (.invokespecial 3, 3) := by decide +kernel
theorem dX4_init_4 : decode cX4_init 4 = .ok (.aload_n 0, 1) := by decide +kernel
theorem dX4_init_5 : decode cX4_init 5 = .ok (.iconst 5, 1) := by decide +kernel
theorem dX4_init_6 : decode cX4_init 6 = .ok (.newarray .int, 2) := by decide +kernel
theorem dX4_init_8 : decode cX4_init 8 = .ok (.dup, 1) := by decide +kernel
theorem dX4_init_9 : decode cX4_init 9 = .ok (.iconst 0, 1) := by decide +kernel
theorem dX4_init_10 : decode cX4_init 10 = .ok (.bipush 100, 2) := by decide +kernel
theorem dX4_init_12 : decode cX4_init 12 = .ok (.iastore, 1) := by decide +kernel
theorem dX4_init_13 : decode cX4_init 13 = .ok (.dup, 1) := by decide +kernel
theorem dX4_init_14 : decode cX4_init 14 = .ok (.iconst 1, 1) := by decide +kernel
theorem dX4_init_15 : decode cX4_init 15 = .ok (.bipush 100, 2) := by decide +kernel
theorem dX4_init_17 : decode cX4_init 17 = .ok (.iastore, 1) := by decide +kernel
theorem dX4_init_18 : decode cX4_init 18 = .ok (.dup, 1) := by decide +kernel
theorem dX4_init_19 : decode cX4_init 19 = .ok (.iconst 2, 1) := by decide +kernel
theorem dX4_init_20 : decode cX4_init 20 = .ok (.bipush 100, 2) := by decide +kernel
theorem dX4_init_22 : decode cX4_init 22 = .ok (.iastore, 1) := by decide +kernel
theorem dX4_init_23 : decode cX4_init 23 = .ok (.dup, 1) := by decide +kernel
theorem dX4_init_24 : decode cX4_init 24 = .ok (.iconst 3, 1) := by decide +kernel
theorem dX4_init_25 : decode cX4_init 25 = .ok (.bipush 100, 2) := by decide +kernel
theorem dX4_init_27 : decode cX4_init 27 = .ok (.iastore, 1) := by decide +kernel
theorem dX4_init_28 : decode cX4_init 28 = .ok (.dup, 1) := by decide +kernel
theorem dX4_init_29 : decode cX4_init 29 = .ok (.iconst 4, 1) := by decide +kernel
theorem dX4_init_30 : decode cX4_init 30 = .ok (.bipush 100, 2) := by decide +kernel
theorem dX4_init_32 : decode cX4_init 32 = .ok (.iastore, 1) := by decide +kernel
theorem dX4_init_33 : decode cX4_init 33 = .ok (.putfield 9, 3) := by decide +kernel
theorem dX4_init_36 : decode cX4_init 36 = .ok (.aload_n 0, 1) := by decide +kernel
theorem dX4_init_37 : decode cX4_init 37 = .ok (.iconst 5, 1) := by decide +kernel
theorem dX4_init_38 : decode cX4_init 38 = .ok (.newarray .int, 2) := by decide +kernel
theorem dX4_init_40 : decode cX4_init 40 = .ok (.dup, 1) := by decide +kernel
theorem dX4_init_41 : decode cX4_init 41 = .ok (.iconst 0, 1) := by decide +kernel
theorem dX4_init_42 : decode cX4_init 42 = .ok (.iconst 5, 1) := by decide +kernel
theorem dX4_init_43 : decode cX4_init 43 = .ok (.iastore, 1) := by decide +kernel
theorem dX4_init_44 : decode cX4_init 44 = .ok (.dup, 1) := by decide +kernel
theorem dX4_init_45 : decode cX4_init 45 = .ok (.iconst 1, 1) := by decide +kernel
theorem dX4_init_46 : decode cX4_init 46 = .ok (.iconst 5, 1) := by decide +kernel
theorem dX4_init_47 : decode cX4_init 47 = .ok (.iastore, 1) := by decide +kernel
theorem dX4_init_48 : decode cX4_init 48 = .ok (.dup, 1) := by decide +kernel
theorem dX4_init_49 : decode cX4_init 49 = .ok (.iconst 2, 1) := by decide +kernel
theorem dX4_init_50 : decode cX4_init 50 = .ok (.iconst 5, 1) := by decide +kernel
theorem dX4_init_51 : decode cX4_init 51 = .ok (.iastore, 1) := by decide +kernel
theorem dX4_init_52 : decode cX4_init 52 = .ok (.dup, 1) := by decide +kernel
theorem dX4_init_53 : decode cX4_init 53 = .ok (.iconst 3, 1) := by decide +kernel
theorem dX4_init_54 : decode cX4_init 54 = .ok (.iconst 5, 1) := by decide +kernel
theorem dX4_init_55 : decode cX4_init 55 = .ok (.iastore, 1) := by decide +kernel
theorem dX4_init_56 : decode cX4_init 56 = .ok (.dup, 1) := by decide +kernel
theorem dX4_init_57 : decode cX4_init 57 = .ok (.iconst 4, 1) := by decide +kernel
theorem dX4_init_58 : decode cX4_init 58 = .ok (.iconst 5, 1) := by decide +kernel
theorem dX4_init_59 : decode cX4_init 59 = .ok (.iastore, 1) := by decide +kernel
theorem dX4_init_60 : decode cX4_init 60 = .ok (.putfield 13, 3) := by decide +kernel
theorem dX4_init_63 : decode cX4_init 63 = .ok (.aload_n 0, 1) := by decide +kernel
theorem dX4_init_64 : decode cX4_init 64 = .ok (.bipush 8, 2) := by decide +kernel
theorem dX4_init_66 : decode cX4_init 66 = .ok (.newarray .int, 2) := by decide +kernel
theorem dX4_init_68 : decode cX4_init 68 = .ok (.putfield 16, 3) := by decide +kernel
theorem dX4_init_71 : decode cX4_init 71 = .ok (.aload_n 0, 1) := by decide +kernel
theorem dX4_init_72 : decode cX4_init 72 = .ok (.bipush 72, 2) := by decide +kernel
theorem dX4_init_74 : decode cX4_init 74 = .ok (.newarray .int, 2) := by decide +kernel
theorem dX4_init_76 : decode cX4_init 76 = .ok (.putfield 19, 3) := by decide +kernel
theorem dX4_init_79 : decode cX4_init 79 = .ok (.aload_n 0, 1) := by decide +kernel
theorem dX4_init_80 : decode cX4_init 80 = .ok (.bipush 12, 2) := by decide +kernel
theorem dX4_init_82 : decode cX4_init 82 = .ok (.newarray .int, 2) := by decide +kernel
theorem dX4_init_84 : decode cX4_init 84 = .ok (.putfield 22, 3) := by decide +kernel
theorem dX4_init_87 : decode cX4_init 87 = .ok (.aload_n 0, 1) := by decide +kernel
theorem dX4_init_88 : decode cX4_init 88 = .ok (.bipush 6, 2) := by decide +kernel
theorem dX4_init_90 : decode cX4_init 90 = .ok (.newarray .int, 2) := by decide +kernel
theorem dX4_init_92 : decode cX4_init 92 = .ok (.putfield 25, 3) := by decide +kernel
theorem dX4_init_95 : decode cX4_init 95 = .ok (.return_, 1) := by decide +kernel
theorem dX4_thrown_0 : decode cX4_thrown 0 = .ok (.aload_n 0, 1) := by decide +kernel
theorem dX4_thrown_1 : decode cX4_thrown 1 = .ok (.getfield 28, 3) := by decide +kernel
theorem dX4_thrown_4 : decode cX4_thrown 4 = .ok (.ireturn, 1) := by decide +kernel
theorem dX4_fail_0 : decode cX4_fail 0 = .ok (.aload_n 0, 1) := by decide +kernel
theorem dX4_fail_1 : decode cX4_fail 1 = .ok (.iload_n 1, 1) := by decide +kernel
theorem dX4_fail_2 : decode cX4_fail 2 = .ok (.putfield 28, 3) := by decide +kernel
theorem dX4_fail_5 : decode cX4_fail 5 = .ok (.iconst 0, 1) := by decide +kernel
theorem dX4_fail_6 : decode cX4_fail 6 = .ok (.ireturn, 1) := by decide +kernel
theorem dX4_isIn_0 : decode cX4_isIn 0 = .ok (.iload_n 0, 1) := by decide +kernel
theorem dX4_isIn_1 : decode cX4_isIn 1 = .ok (.iload_n 1, 1) := by decide +kernel
theorem dX4_isIn_2 : decode cX4_isIn 2 = .ok (.if_icmp .lt 12, 3) := by decide +kernel
theorem dX4_isIn_5 : decode cX4_isIn 5 = .ok (.iload_n 0, 1) := by decide +kernel
theorem dX4_isIn_6 : decode cX4_isIn 6 = .ok (.iload_n 2, 1) := by decide +kernel
theorem dX4_isIn_7 : decode cX4_isIn 7 = .ok (.if_icmp .gt 7, 3) := by decide +kernel
theorem dX4_isIn_10 : decode cX4_isIn 10 = .ok (.iconst 1, 1) := by decide +kernel
theorem dX4_isIn_11 : decode cX4_isIn 11 = .ok (.goto 4, 3) := by decide +kernel
theorem dX4_isIn_14 : decode cX4_isIn 14 = .ok (.iconst 0, 1) := by decide +kernel
theorem dX4_isIn_15 : decode cX4_isIn 15 = .ok (.ireturn, 1) := by decide +kernel
set_option maxRecDepth 20000 in
theorem ggX4_isSledge_X4_isIn : GoodIn wsX4_isSledge wsX4_isIn := goodIn_r _ [5] (by decide +kernel) (by decide +kernel)
set_option maxRecDepth 20000 in
theorem gX4_isSledge_X4_isIn : GoodIn wsX4_isSledge (va_wsS RX4 35 yX4_isIn wsX4_isIn) := goodIn_app (goodIn_of _ (by decide +kernel)) ggX4_isSledge_X4_isIn
theorem dX4_isSledge_0 : decode cX4_isSledge 0 = .ok (.iload_n 1, 1) := by decide +kernel
theorem dX4_isSledge_1 : decode cX4_isSledge 1 = .ok (.iconst 0, 1) := by decide +kernel
theorem dX4_isSledge_2 : decode cX4_isSledge 2 = .ok (.aload_n 0, 1) := by decide +kernel
theorem dX4_isSledge_3 : decode cX4_isSledge 3 = .ok (.getfield 32, 3) := by decide +kernel
theorem dX4_isSledge_6 : decode cX4_isSledge 6 = .ok (.iconst 1, 1) := by decide +kernel
theorem dX4_isSledge_7 : decode cX4_isSledge 7 = .ok (.isub, 1) := by decide +kernel
theorem dX4_isSledge_8 : decode cX4_isSledge 8 = .ok (.invokestatic 35, 3) := by decide +kernel
theorem dX4_isSledge_11 : decode cX4_isSledge 11 = .ok (.ireturn, 1) := by decide +kernel
set_option maxRecDepth 20000 in
theorem ggX4_isBoat_X4_isIn : GoodIn wsX4_isBoat wsX4_isIn := goodIn_r _ [5] (by decide +kernel) (by decide +kernel)
set_option maxRecDepth 20000 in
theorem gX4_isBoat_X4_isIn : GoodIn wsX4_isBoat (va_wsS RX4 35 yX4_isIn wsX4_isIn) := goodIn_app (goodIn_of _ (by decide +kernel)) ggX4_isBoat_X4_isIn
theorem dX4_isBoat_0 : decode cX4_isBoat 0 = .ok (.iload_n 1, 1) := by decide +kernel
theorem dX4_isBoat_1 : decode cX4_isBoat 1 = .ok (.iconst 0, 1) := by decide +kernel
theorem dX4_isBoat_2 : decode cX4_isBoat 2 = .ok (.aload_n 0, 1) := by decide +kernel
theorem dX4_isBoat_3 : decode cX4_isBoat 3 = .ok (.getfield 39, 3) := by decide +kernel
theorem dX4_isBoat_6 : decode cX4_isBoat 6 = .ok (.iconst 1, 1) := by decide +kernel
theorem dX4_isBoat_7 : decode cX4_isBoat 7 = .ok (.isub, 1) := by decide +kernel
theorem dX4_isBoat_8 : decode cX4_isBoat 8 = .ok (.invokestatic 35, 3) := by decide +kernel
theorem dX4_isBoat_11 : decode cX4_isBoat 11 = .ok (.ireturn, 1) := by decide +kernel
set_option maxRecDepth 20000 in
theorem ggX4_isLayer_X4_isIn : GoodIn wsX4_isLayer wsX4_isIn := goodIn_r _ [4] (by decide +kernel) (by decide +kernel)
set_option maxRecDepth 20000 in
theorem gX4_isLayer_X4_isIn : GoodIn wsX4_isLayer (va_wsS RX4 35 yX4_isIn wsX4_isIn) := goodIn_app (goodIn_of _ (by decide +kernel)) ggX4_isLayer_X4_isIn
theorem dX4_isLayer_0 : decode cX4_isLayer 0 = .ok (.iload_n 0, 1) := by decide +kernel
theorem dX4_isLayer_1 : decode cX4_isLayer 1 = .ok (.iconst 0, 1) := by decide +kernel
theorem dX4_isLayer_2 : decode cX4_isLayer 2 = .ok (.iconst 4, 1) := by decide +kernel
theorem dX4_isLayer_3 : decode cX4_isLayer 3 = .ok (.invokestatic 35, 3) := by decide +kernel
theorem dX4_isLayer_6 : decode cX4_isLayer 6 = .ok (.ireturn, 1) := by decide +kernel
theorem dX4_sl_0 : decode cX4_sl 0 = .ok (.aload_n 0, 1) := by decide +kernel
theorem dX4_sl_1 : decode cX4_sl 1 = .ok (.getfield 19, 3) := by decide +kernel
theorem dX4_sl_4 : decode cX4_sl 4 = .ok (.bipush 12, 2) := by decide +kernel
theorem dX4_sl_6 : decode cX4_sl 6 = .ok (.iload_n 1, 1) := by decide +kernel
theorem dX4_sl_7 : decode cX4_sl 7 = .ok (.imul, 1) := by decide +kernel
theorem dX4_sl_8 : decode cX4_sl 8 = .ok (.iload_n 2, 1) := by decide +kernel
theorem dX4_sl_9 : decode cX4_sl 9 = .ok (.iadd, 1) := by decide +kernel
theorem dX4_sl_10 : decode cX4_sl 10 = .ok (.iaload, 1) := by decide +kernel
theorem dX4_sl_11 : decode cX4_sl 11 = .ok (.ireturn, 1) := by decide +kernel
theorem dX4_put_0 : decode cX4_put 0 = .ok (.aload_n 0, 1) := by decide +kernel
theorem dX4_put_1 : decode cX4_put 1 = .ok (.getfield 19, 3) := by decide +kernel
theorem dX4_put_4 : decode cX4_put 4 = .ok (.bipush 12, 2) := by decide +kernel
theorem dX4_put_6 : decode cX4_put 6 = .ok (.iload_n 1, 1) := by decide +kernel
theorem dX4_put_7 : decode cX4_put 7 = .ok (.imul, 1) := by decide +kernel
theorem dX4_put_8 : decode cX4_put 8 = .ok (.iload_n 2, 1) := by decide +kernel
theorem dX4_put_9 : decode cX4_put 9 = .ok (.iadd, 1) := by decide +kernel
theorem dX4_put_10 : decode cX4_put 10 = .ok (.iload_n 3, 1) := by decide +kernel
theorem dX4_put_11 : decode cX4_put 11 = .ok (.iastore, 1) := by decide +kernel
theorem dX4_put_12 : decode cX4_put 12 = .ok (.return_, 1) := by decide +kernel
theorem dX4_bo_0 : decode cX4_bo 0 = .ok (.aload_n 0, 1) := by decide +kernel
theorem dX4_bo_1 : decode cX4_bo 1 = .ok (.getfield 22, 3) := by decide +kernel
theorem dX4_bo_4 : decode cX4_bo 4 = .ok (.iconst 3, 1) := by decide +kernel
theorem dX4_bo_5 : decode cX4_bo 5 = .ok (.iload_n 1, 1) := by decide +kernel
theorem dX4_bo_6 : decode cX4_bo 6 = .ok (.imul, 1) := by decide +kernel
theorem dX4_bo_7 : decode cX4_bo 7 = .ok (.iload_n 2, 1) := by decide +kernel
theorem dX4_bo_8 : decode cX4_bo 8 = .ok (.iadd, 1) := by decide +kernel
theorem dX4_bo_9 : decode cX4_bo 9 = .ok (.iaload, 1) := by decide +kernel
theorem dX4_bo_10 : decode cX4_bo 10 = .ok (.ireturn, 1) := by decide +kernel
set_option maxRecDepth 20000 in
theorem ggX4_set_X4_isLayer : GoodIn wsX4_set wsX4_isLayer := goodIn_r _ [7, 8, 9, 6, 10] (by decide +kernel) (by decide +kernel)
set_option maxRecDepth 20000 in
theorem gX4_set_X4_isLayer : GoodIn wsX4_set (va_wsS RX4 42 yX4_isLayer wsX4_isLayer) := goodIn_app (goodIn_of _ (by decide +kernel)) ggX4_set_X4_isLayer
set_option maxRecDepth 20000 in
theorem ggX4_set_X4_fail : GoodIn wsX4_set wsX4_fail := goodIn_r _ [14, 1, 15, 16, 17, 18, 19, 20, 21, 22, 23] (by decide +kernel) (by decide +kernel)
set_option maxRecDepth 20000 in
theorem gX4_set_X4_fail : GoodIn wsX4_set (wsV RX4 46 RX4 yX4_fail wsX4_fail) := goodIn_app (goodIn_of _ (by decide +kernel)) ggX4_set_X4_fail
set_option maxRecDepth 20000 in
theorem ggX4_set_X4_isIn : GoodIn wsX4_set wsX4_isIn := goodIn_r _ [10] (by decide +kernel) (by decide +kernel)
set_option maxRecDepth 20000 in
theorem gX4_set_X4_isIn : GoodIn wsX4_set (va_wsS RX4 35 yX4_isIn wsX4_isIn) := goodIn_app (goodIn_of _ (by decide +kernel)) ggX4_set_X4_isIn
theorem dX4_set_0 : decode cX4_set 0 = .ok (.aload_n 0, 1) := by decide +kernel
theorem dX4_set_1 : decode cX4_set 1 = .ok (.iconst 0, 1) := by decide +kernel
theorem dX4_set_2 : decode cX4_set 2 = .ok (.putfield 28, 3) := by decide +kernel
theorem dX4_set_5 : decode cX4_set 5 = .ok (.iload_n 1, 1) := by decide +kernel
theorem dX4_set_6 : decode cX4_set 6 = .ok (.invokestatic 42, 3) := by decide +kernel
theorem dX4_set_9 : decode cX4_set 9 = .ok (.ifCond .ne 9, 3) := by decide +kernel
theorem dX4_set_12 : decode cX4_set 12 = .ok (.aload_n 0, 1) := by decide +kernel
theorem dX4_set_13 : decode cX4_set 13 = .ok (.iconst 1, 1) := by decide +kernel
theorem dX4_set_14 : decode cX4_set 14 = .ok (.invokevirtual 46, 3) := by decide +kernel
theorem dX4_set_17 : decode cX4_set 17 = .ok (.ireturn, 1) := by decide +kernel
theorem dX4_set_18 : decode cX4_set 18 = .ok (.iload_n 2, 1) := by decide +kernel
theorem dX4_set_19 : decode cX4_set 19 = .ok (.iconst 0, 1) := by decide +kernel
theorem dX4_set_20 : decode cX4_set 20 = .ok (.sipush 500, 3) := by decide +kernel
theorem dX4_set_23 : decode cX4_set 23 = .ok (.invokestatic 35, 3) := by decide +kernel
theorem dX4_set_26 : decode cX4_set 26 = .ok (.ifCond .eq 13, 3) := by decide +kernel
theorem dX4_set_29 : decode cX4_set 29 = .ok (.iload_n 3, 1) := by decide +kernel
theorem dX4_set_30 : decode cX4_set 30 = .ok (.iconst 1, 1) := by decide +kernel
theorem dX4_set_31 : decode cX4_set 31 = .ok (.bipush 9, 2) := by decide +kernel
theorem dX4_set_33 : decode cX4_set 33 = .ok (.invokestatic 35, 3) := by decide +kernel
theorem dX4_set_36 : decode cX4_set 36 = .ok (.ifCond .ne 9, 3) := by decide +kernel
theorem dX4_set_39 : decode cX4_set 39 = .ok (.aload_n 0, 1) := by decide +kernel
theorem dX4_set_40 : decode cX4_set 40 = .ok (.iconst 2, 1) := by decide +kernel
theorem dX4_set_41 : decode cX4_set 41 = .ok (.invokevirtual 46, 3) := by decide +kernel
theorem dX4_set_44 : decode cX4_set 44 = .ok (.ireturn, 1) := by decide +kernel
theorem dX4_set_45 : decode cX4_set 45 = .ok (.bipush 10, 2) := by decide +kernel
theorem dX4_set_47 : decode cX4_set 47 = .ok (.aload_n 0, 1) := by decide +kernel
theorem dX4_set_48 : decode cX4_set 48 = .ok (.getfield 9, 3) := by decide +kernel
theorem dX4_set_51 : decode cX4_set 51 = .ok (.iload_n 1, 1) := by decide +kernel
theorem dX4_set_52 : decode cX4_set 52 = .ok (.iaload, 1) := by decide +kernel
theorem dX4_set_53 : decode cX4_set 53 = .ok (.imul, 1) := by decide +kernel
theorem dX4_set_54 : decode cX4_set 54 = .ok (.aload_n 0, 1) := by decide +kernel
theorem dX4_set_55 : decode cX4_set 55 = .ok (.getfield 13, 3) := by decide +kernel
theorem dX4_set_58 : decode cX4_set 58 = .ok (.iload_n 1, 1) := by decide +kernel
theorem dX4_set_59 : decode cX4_set 59 = .ok (.iaload, 1) := by decide +kernel
theorem dX4_set_60 : decode cX4_set 60 = .ok (.iadd, 1) := by decide +kernel
theorem dX4_set_61 : decode cX4_set 61 = .ok (.istore 4, 2) := by decide +kernel
theorem dX4_set_63 : decode cX4_set 63 = .ok (.aload_n 0, 1) := by decide +kernel
theorem dX4_set_64 : decode cX4_set 64 = .ok (.getfield 9, 3) := by decide +kernel
theorem dX4_set_67 : decode cX4_set 67 = .ok (.iload_n 1, 1) := by decide +kernel
theorem dX4_set_68 : decode cX4_set 68 = .ok (.iload_n 2, 1) := by decide +kernel
theorem dX4_set_69 : decode cX4_set 69 = .ok (.iastore, 1) := by decide +kernel
theorem dX4_set_70 : decode cX4_set 70 = .ok (.aload_n 0, 1) := by decide +kernel
theorem dX4_set_71 : decode cX4_set 71 = .ok (.getfield 13, 3) := by decide +kernel
theorem dX4_set_74 : decode cX4_set 74 = .ok (.iload_n 1, 1) := by decide +kernel
theorem dX4_set_75 : decode cX4_set 75 = .ok (.iload_n 3, 1) := by decide +kernel
theorem dX4_set_76 : decode cX4_set 76 = .ok (.iastore, 1) := by decide +kernel
theorem dX4_set_77 : decode cX4_set 77 = .ok (.iload 4, 2) := by decide +kernel
theorem dX4_set_79 : decode cX4_set 79 = .ok (.ireturn, 1) := by decide +kernel
set_option maxRecDepth 20000 in
theorem ggX4_setGust_X4_isIn : GoodIn wsX4_setGust wsX4_isIn := goodIn_r _ [6] (by decide +kernel) (by decide +kernel)
set_option maxRecDepth 20000 in
theorem gX4_setGust_X4_isIn : GoodIn wsX4_setGust (va_wsS RX4 35 yX4_isIn wsX4_isIn) := goodIn_app (goodIn_of _ (by decide +kernel)) ggX4_setGust_X4_isIn
set_option maxRecDepth 20000 in
theorem ggX4_setGust_X4_fail : GoodIn wsX4_setGust wsX4_fail := goodIn_r _ [10, 1, 11, 12, 13, 14, 15, 16, 17, 18, 19] (by decide +kernel) (by decide +kernel)
set_option maxRecDepth 20000 in
theorem gX4_setGust_X4_fail : GoodIn wsX4_setGust (wsV RX4 46 RX4 yX4_fail wsX4_fail) := goodIn_app (goodIn_of _ (by decide +kernel)) ggX4_setGust_X4_fail
theorem dX4_setGust_0 : decode cX4_setGust 0 = .ok (.aload_n 0, 1) := by decide +kernel
theorem dX4_setGust_1 : decode cX4_setGust 1 = .ok (.iconst 0, 1) := by decide +kernel
theorem dX4_setGust_2 : decode cX4_setGust 2 = .ok (.putfield 28, 3) := by decide +kernel
theorem dX4_setGust_5 : decode cX4_setGust 5 = .ok (.iload_n 1, 1) := by decide +kernel
theorem dX4_setGust_6 : decode cX4_setGust 6 = .ok (.iconst 0, 1) := by decide +kernel
theorem dX4_setGust_7 : decode cX4_setGust 7 = .ok (.bipush 7, 2) := by decide +kernel
theorem dX4_setGust_9 : decode cX4_setGust 9 = .ok (.invokestatic 35, 3) := by decide +kernel
theorem dX4_setGust_12 : decode cX4_setGust 12 = .ok (.ifCond .ne 9, 3) := by decide +kernel
theorem dX4_setGust_15 : decode cX4_setGust 15 = .ok (.aload_n 0, 1) := by decide +kernel
theorem dX4_setGust_16 : decode cX4_setGust 16 = .ok (.iconst 1, 1) := by decide +kernel
theorem dX4_setGust_17 : decode cX4_setGust 17 = .ok (.invokevirtual 46, 3) := by decide +kernel
theorem dX4_setGust_20 : decode cX4_setGust 20 = .ok (.ireturn, 1) := by decide +kernel
theorem dX4_setGust_21 : decode cX4_setGust 21 = .ok (.iload_n 2, 1) := by decide +kernel
theorem dX4_setGust_22 : decode cX4_setGust 22 = .ok (.iconst 0, 1) := by decide +kernel
theorem dX4_setGust_23 : decode cX4_setGust 23 = .ok (.bipush 9, 2) := by decide +kernel
theorem dX4_setGust_25 : decode cX4_setGust 25 = .ok (.invokestatic 35, 3) := by decide +kernel
theorem dX4_setGust_28 : decode cX4_setGust 28 = .ok (.ifCond .ne 9, 3) := by decide +kernel
theorem dX4_setGust_31 : decode cX4_setGust 31 = .ok (.aload_n 0, 1) := by decide +kernel
theorem dX4_setGust_32 : decode cX4_setGust 32 = .ok (.iconst 2, 1) := by decide +kernel
theorem dX4_setGust_33 : decode cX4_setGust 33 = .ok (.invokevirtual 46, 3) := by decide +kernel
theorem dX4_setGust_36 : decode cX4_setGust 36 = .ok (.ireturn, 1) := by decide +kernel
theorem dX4_setGust_37 : decode cX4_setGust 37 = .ok (.aload_n 0, 1) := by decide +kernel
theorem dX4_setGust_38 : decode cX4_setGust 38 = .ok (.getfield 16, 3) := by decide +kernel
theorem dX4_setGust_41 : decode cX4_setGust 41 = .ok (.iload_n 1, 1) := by decide +kernel
theorem dX4_setGust_42 : decode cX4_setGust 42 = .ok (.iaload, 1) := by decide +kernel
theorem dX4_setGust_43 : decode cX4_setGust 43 = .ok (.istore_n 3, 1) := by decide +kernel
theorem dX4_setGust_44 : decode cX4_setGust 44 = .ok (.aload_n 0, 1) := by decide +kernel
theorem dX4_setGust_45 : decode cX4_setGust 45 = .ok (.getfield 16, 3) := by decide +kernel
theorem dX4_setGust_48 : decode cX4_setGust 48 = .ok (.iload_n 1, 1) := by decide +kernel
theorem dX4_setGust_49 : decode cX4_setGust 49 = .ok (.iload_n 2, 1) := by decide +kernel
theorem dX4_setGust_50 : decode cX4_setGust 50 = .ok (.iastore, 1) := by decide +kernel
theorem dX4_setGust_51 : decode cX4_setGust 51 = .ok (.iload_n 3, 1) := by decide +kernel
theorem dX4_setGust_52 : decode cX4_setGust 52 = .ok (.ireturn, 1) := by decide +kernel
set_option maxRecDepth 20000 in
theorem ggX4_build_X4_isIn : GoodIn wsX4_build wsX4_isIn := goodIn_r _ [6] (by decide +kernel) (by decide +kernel)
set_option maxRecDepth 20000 in
theorem gX4_build_X4_isIn : GoodIn wsX4_build (va_wsS RX4 35 yX4_isIn wsX4_isIn) := goodIn_app (goodIn_of _ (by decide +kernel)) ggX4_build_X4_isIn
set_option maxRecDepth 20000 in
theorem ggX4_build_X4_fail : GoodIn wsX4_build wsX4_fail := goodIn_r _ [10, 1, 16, 17, 18, 19, 20, 21, 22, 23, 24] (by decide +kernel) (by decide +kernel)
set_option maxRecDepth 20000 in
theorem gX4_build_X4_fail : GoodIn wsX4_build (wsV RX4 46 RX4 yX4_fail wsX4_fail) := goodIn_app (goodIn_of _ (by decide +kernel)) ggX4_build_X4_fail
set_option maxRecDepth 20000 in
theorem ggX4_build_X4_put : GoodIn wsX4_build wsX4_put := goodIn_r _ [14, 15, 16, 17, 18, 19, 20, 21, 22, 23, 24] (by decide +kernel) (by decide +kernel)
set_option maxRecDepth 20000 in
theorem gX4_build_X4_put : GoodIn wsX4_build (wsV RX4 50 RX4 yX4_put wsX4_put) := goodIn_app (goodIn_of _ (by decide +kernel)) ggX4_build_X4_put
theorem dX4_build_0 : decode cX4_build 0 = .ok (.aload_n 0, 1) := by decide +kernel
theorem dX4_build_1 : decode cX4_build 1 = .ok (.iconst 0, 1) := by decide +kernel
theorem dX4_build_2 : decode cX4_build 2 = .ok (.putfield 28, 3) := by decide +kernel
theorem dX4_build_5 : decode cX4_build 5 = .ok (.iload_n 1, 1) := by decide +kernel
theorem dX4_build_6 : decode cX4_build 6 = .ok (.iconst 1, 1) := by decide +kernel
theorem dX4_build_7 : decode cX4_build 7 = .ok (.bipush 8, 2) := by decide +kernel
theorem dX4_build_9 : decode cX4_build 9 = .ok (.invokestatic 35, 3) := by decide +kernel
theorem dX4_build_12 : decode cX4_build 12 = .ok (.ifCond .ne 9, 3) := by decide +kernel
theorem dX4_build_15 : decode cX4_build 15 = .ok (.aload_n 0, 1) := by decide +kernel
theorem dX4_build_16 : decode cX4_build 16 = .ok (.iconst 1, 1) := by decide +kernel
theorem dX4_build_17 : decode cX4_build 17 = .ok (.invokevirtual 46, 3) := by decide +kernel
theorem dX4_build_20 : decode cX4_build 20 = .ok (.ireturn, 1) := by decide +kernel
theorem dX4_build_21 : decode cX4_build 21 = .ok (.aload_n 0, 1) := by decide +kernel
theorem dX4_build_22 : decode cX4_build 22 = .ok (.getfield 32, 3) := by decide +kernel
theorem dX4_build_25 : decode cX4_build 25 = .ok (.bipush 6, 2) := by decide +kernel
theorem dX4_build_27 : decode cX4_build 27 = .ok (.if_icmp .ne 9, 3) := by decide +kernel
theorem dX4_build_30 : decode cX4_build 30 = .ok (.aload_n 0, 1) := by decide +kernel
theorem dX4_build_31 : decode cX4_build 31 = .ok (.iconst 2, 1) := by decide +kernel
theorem dX4_build_32 : decode cX4_build 32 = .ok (.invokevirtual 46, 3) := by decide +kernel
theorem dX4_build_35 : decode cX4_build 35 = .ok (.ireturn, 1) := by decide +kernel
theorem dX4_build_36 : decode cX4_build 36 = .ok (.aload_n 0, 1) := by decide +kernel
theorem dX4_build_37 : decode cX4_build 37 = .ok (.aload_n 0, 1) := by decide +kernel
theorem dX4_build_38 : decode cX4_build 38 = .ok (.getfield 32, 3) := by decide +kernel
theorem dX4_build_41 : decode cX4_build 41 = .ok (.iconst 0, 1) := by decide +kernel
theorem dX4_build_42 : decode cX4_build 42 = .ok (.iload_n 1, 1) := by decide +kernel
theorem dX4_build_43 : decode cX4_build 43 = .ok (.invokevirtual 50, 3) := by decide +kernel
theorem dX4_build_46 : decode cX4_build 46 = .ok (.aload_n 0, 1) := by decide +kernel
theorem dX4_build_47 : decode cX4_build 47 = .ok (.aload_n 0, 1) := by decide +kernel
theorem dX4_build_48 : decode cX4_build 48 = .ok (.getfield 32, 3) := by decide +kernel
theorem dX4_build_51 : decode cX4_build 51 = .ok (.iconst 2, 1) := by decide +kernel
theorem dX4_build_52 : decode cX4_build 52 = .ok (.bipush 20, 2) := by decide +kernel
theorem dX4_build_54 : decode cX4_build 54 = .ok (.invokevirtual 50, 3) := by decide +kernel
theorem dX4_build_57 : decode cX4_build 57 = .ok (.aload_n 0, 1) := by decide +kernel
theorem dX4_build_58 : decode cX4_build 58 = .ok (.dup, 1) := by decide +kernel
theorem dX4_build_59 : decode cX4_build 59 = .ok (.getfield 32, 3) := by decide +kernel
theorem dX4_build_62 : decode cX4_build 62 = .ok (.iconst 1, 1) := by decide +kernel
theorem dX4_build_63 : decode cX4_build 63 = .ok (.iadd, 1) := by decide +kernel
theorem dX4_build_64 : decode cX4_build 64 = .ok (.putfield 32, 3) := by decide +kernel
theorem dX4_build_67 : decode cX4_build 67 = .ok (.aload_n 0, 1) := by decide +kernel
theorem dX4_build_68 : decode cX4_build 68 = .ok (.getfield 32, 3) := by decide +kernel
theorem dX4_build_71 : decode cX4_build 71 = .ok (.iconst 1, 1) := by decide +kernel
theorem dX4_build_72 : decode cX4_build 72 = .ok (.isub, 1) := by decide +kernel
theorem dX4_build_73 : decode cX4_build 73 = .ok (.ireturn, 1) := by decide +kernel
theorem dX4_kind_0 : decode cX4_kind 0 = .ok (.iload_n 0, 1) := by decide +kernel
theorem dX4_kind_1 : decode cX4_kind 1 = .ok (.bipush 30, 2) := by decide +kernel
theorem dX4_kind_3 : decode cX4_kind 3 = .ok (.if_icmp .gt 7, 3) := by decide +kernel
theorem dX4_kind_6 : decode cX4_kind 6 = .ok (.iconst 2, 1) := by decide +kernel
theorem dX4_kind_7 : decode cX4_kind 7 = .ok (.goto 14, 3) := by decide +kernel
theorem dX4_kind_10 : decode cX4_kind 10 = .ok (.iload_n 0, 1) := by decide +kernel
theorem dX4_kind_11 : decode cX4_kind 11 = .ok (.bipush 60, 2) := by decide +kernel
theorem dX4_kind_13 : decode cX4_kind 13 = .ok (.if_icmp .gt 7, 3) := by decide +kernel
theorem dX4_kind_16 : decode cX4_kind 16 = .ok (.iconst 1, 1) := by decide +kernel
theorem dX4_kind_17 : decode cX4_kind 17 = .ok (.goto 4, 3) := by decide +kernel
theorem dX4_kind_20 : decode cX4_kind 20 = .ok (.iconst 0, 1) := by decide +kernel
theorem dX4_kind_21 : decode cX4_kind 21 = .ok (.ireturn, 1) := by decide +kernel
set_option maxRecDepth 20000 in
theorem ggX4_fill_X4_isSledge : GoodIn wsX4_fill wsX4_isSledge := goodIn_r _ [8, 9, 10, 11, 7, 12, 32, 33, 34, 35, 36, 37, 38, 39, 40] (by decide +kernel) (by decide +kernel)
set_option maxRecDepth 20000 in
theorem gX4_fill_X4_isSledge : GoodIn wsX4_fill (wsV RX4 54 RX4 yX4_isSledge wsX4_isSledge) := goodIn_app (goodIn_of _ (by decide +kernel)) ggX4_fill_X4_isSledge
set_option maxRecDepth 20000 in
theorem ggX4_fill_X4_isLayer : GoodIn wsX4_fill wsX4_isLayer := goodIn_r _ [15, 10, 11, 7, 12] (by decide +kernel) (by decide +kernel)
set_option maxRecDepth 20000 in
theorem gX4_fill_X4_isLayer : GoodIn wsX4_fill (va_wsS RX4 42 yX4_isLayer wsX4_isLayer) := goodIn_app (goodIn_of _ (by decide +kernel)) ggX4_fill_X4_isLayer
set_option maxRecDepth 20000 in
theorem ggX4_fill_X4_fail : GoodIn wsX4_fill wsX4_fail := goodIn_r _ [19, 1, 32, 33, 34, 35, 36, 37, 38, 39, 40] (by decide +kernel) (by decide +kernel)
set_option maxRecDepth 20000 in
theorem gX4_fill_X4_fail : GoodIn wsX4_fill (wsV RX4 46 RX4 yX4_fail wsX4_fail) := goodIn_app (goodIn_of _ (by decide +kernel)) ggX4_fill_X4_fail
set_option maxRecDepth 20000 in
theorem ggX4_fill_X4_sl : GoodIn wsX4_fill wsX4_sl := goodIn_r _ [23, 24, 32, 33, 34, 35, 36, 37, 38, 39, 40] (by decide +kernel) (by decide +kernel)
set_option maxRecDepth 20000 in
theorem gX4_fill_X4_sl : GoodIn wsX4_fill (wsV RX4 57 RX4 yX4_sl wsX4_sl) := goodIn_app (goodIn_of _ (by decide +kernel)) ggX4_fill_X4_sl
set_option maxRecDepth 20000 in
theorem ggX4_fill_X4_put : GoodIn wsX4_fill wsX4_put := goodIn_r _ [28, 24, 32, 33, 34, 35, 36, 37, 38, 39, 40] (by decide +kernel) (by decide +kernel)
set_option maxRecDepth 20000 in
theorem gX4_fill_X4_put : GoodIn wsX4_fill (wsV RX4 50 RX4 yX4_put wsX4_put) := goodIn_app (goodIn_of _ (by decide +kernel)) ggX4_fill_X4_put
set_option maxRecDepth 20000 in
theorem ggX4_fill_X4_kind : GoodIn wsX4_fill wsX4_kind := goodIn_r _ [31] (by decide +kernel) (by decide +kernel)
set_option maxRecDepth 20000 in
theorem gX4_fill_X4_kind : GoodIn wsX4_fill (va_wsS RX4 61 yX4_kind wsX4_kind) := goodIn_app (goodIn_of _ (by decide +kernel)) ggX4_fill_X4_kind
theorem dX4_fill_0 : decode cX4_fill 0 = .ok (.aload_n 0, 1) := by decide +kernel
theorem dX4_fill_1 : decode cX4_fill 1 = .ok (.iconst 0, 1) := by decide +kernel
theorem dX4_fill_2 : decode cX4_fill 2 = .ok (.putfield 28, 3) := by decide +kernel
theorem dX4_fill_5 : decode cX4_fill 5 = .ok (.aload_n 0, 1) := by decide +kernel
theorem dX4_fill_6 : decode cX4_fill 6 = .ok (.iload_n 1, 1) := by decide +kernel
theorem dX4_fill_7 : decode cX4_fill 7 = .ok (.invokevirtual 54, 3) := by decide +kernel
theorem dX4_fill_10 : decode cX4_fill 10 = .ok (.ifCond .eq 10, 3) := by decide +kernel
theorem dX4_fill_13 : decode cX4_fill 13 = .ok (.iload_n 2, 1) := by decide +kernel
theorem dX4_fill_14 : decode cX4_fill 14 = .ok (.invokestatic 42, 3) := by decide +kernel
theorem dX4_fill_17 : decode cX4_fill 17 = .ok (.ifCond .ne 9, 3) := by decide +kernel
theorem dX4_fill_20 : decode cX4_fill 20 = .ok (.aload_n 0, 1) := by decide +kernel
theorem dX4_fill_21 : decode cX4_fill 21 = .ok (.iconst 1, 1) := by decide +kernel
theorem dX4_fill_22 : decode cX4_fill 22 = .ok (.invokevirtual 46, 3) := by decide +kernel
theorem dX4_fill_25 : decode cX4_fill 25 = .ok (.ireturn, 1) := by decide +kernel
theorem dX4_fill_26 : decode cX4_fill 26 = .ok (.aload_n 0, 1) := by decide +kernel
theorem dX4_fill_27 : decode cX4_fill 27 = .ok (.iload_n 1, 1) := by decide +kernel
theorem dX4_fill_28 : decode cX4_fill 28 = .ok (.iconst 3, 1) := by decide +kernel
theorem dX4_fill_29 : decode cX4_fill 29 = .ok (.invokevirtual 57, 3) := by decide +kernel
theorem dX4_fill_32 : decode cX4_fill 32 = .ok (.ifCond .ne 29, 3) := by decide +kernel
theorem dX4_fill_35 : decode cX4_fill 35 = .ok (.aload_n 0, 1) := by decide +kernel
theorem dX4_fill_36 : decode cX4_fill 36 = .ok (.iload_n 1, 1) := by decide +kernel
theorem dX4_fill_37 : decode cX4_fill 37 = .ok (.iconst 1, 1) := by decide +kernel
theorem dX4_fill_38 : decode cX4_fill 38 = .ok (.invokevirtual 57, 3) := by decide +kernel
theorem dX4_fill_41 : decode cX4_fill 41 = .ok (.aload_n 0, 1) := by decide +kernel
theorem dX4_fill_42 : decode cX4_fill 42 = .ok (.iload_n 1, 1) := by decide +kernel
theorem dX4_fill_43 : decode cX4_fill 43 = .ok (.iconst 0, 1) := by decide +kernel
theorem dX4_fill_44 : decode cX4_fill 44 = .ok (.invokevirtual 57, 3) := by decide +kernel
theorem dX4_fill_47 : decode cX4_fill 47 = .ok (.if_icmp .eq 14, 3) := by decide +kernel
theorem dX4_fill_50 : decode cX4_fill 50 = .ok (.aload_n 0, 1) := by decide +kernel
theorem dX4_fill_51 : decode cX4_fill 51 = .ok (.getfield 9, 3) := by decide +kernel
theorem dX4_fill_54 : decode cX4_fill 54 = .ok (.iload_n 2, 1) := by decide +kernel
theorem dX4_fill_55 : decode cX4_fill 55 = .ok (.iaload, 1) := by decide +kernel
theorem dX4_fill_56 : decode cX4_fill 56 = .ok (.bipush 10, 2) := by decide +kernel
theorem dX4_fill_58 : decode cX4_fill 58 = .ok (.if_icmp .ge 9, 3) := by decide +kernel
theorem dX4_fill_61 : decode cX4_fill 61 = .ok (.aload_n 0, 1) := by decide +kernel
theorem dX4_fill_62 : decode cX4_fill 62 = .ok (.iconst 2, 1) := by decide +kernel
theorem dX4_fill_63 : decode cX4_fill 63 = .ok (.invokevirtual 46, 3) := by decide +kernel
theorem dX4_fill_66 : decode cX4_fill 66 = .ok (.ireturn, 1) := by decide +kernel
theorem dX4_fill_67 : decode cX4_fill 67 = .ok (.aload_n 0, 1) := by decide +kernel
theorem dX4_fill_68 : decode cX4_fill 68 = .ok (.getfield 9, 3) := by decide +kernel
theorem dX4_fill_71 : decode cX4_fill 71 = .ok (.iload_n 2, 1) := by decide +kernel
theorem dX4_fill_72 : decode cX4_fill 72 = .ok (.dup2, 1) := by decide +kernel
theorem dX4_fill_73 : decode cX4_fill 73 = .ok (.iaload, 1) := by decide +kernel
theorem dX4_fill_74 : decode cX4_fill 74 = .ok (.bipush 10, 2) := by decide +kernel
theorem dX4_fill_76 : decode cX4_fill 76 = .ok (.isub, 1) := by decide +kernel
theorem dX4_fill_77 : decode cX4_fill 77 = .ok (.iastore, 1) := by decide +kernel
theorem dX4_fill_78 : decode cX4_fill 78 = .ok (.aload_n 0, 1) := by decide +kernel
theorem dX4_fill_79 : decode cX4_fill 79 = .ok (.iload_n 1, 1) := by decide +kernel
theorem dX4_fill_80 : decode cX4_fill 80 = .ok (.iconst 4, 1) := by decide +kernel
theorem dX4_fill_81 : decode cX4_fill 81 = .ok (.aload_n 0, 1) := by decide +kernel
theorem dX4_fill_82 : decode cX4_fill 82 = .ok (.iload_n 1, 1) := by decide +kernel
theorem dX4_fill_83 : decode cX4_fill 83 = .ok (.iconst 1, 1) := by decide +kernel
theorem dX4_fill_84 : decode cX4_fill 84 = .ok (.invokevirtual 57, 3) := by decide +kernel
theorem dX4_fill_87 : decode cX4_fill 87 = .ok (.iadd, 1) := by decide +kernel
theorem dX4_fill_88 : decode cX4_fill 88 = .ok (.bipush 10, 2) := by decide +kernel
theorem dX4_fill_90 : decode cX4_fill 90 = .ok (.aload_n 0, 1) := by decide +kernel
theorem dX4_fill_91 : decode cX4_fill 91 = .ok (.getfield 13, 3) := by decide +kernel
theorem dX4_fill_94 : decode cX4_fill 94 = .ok (.iload_n 2, 1) := by decide +kernel
theorem dX4_fill_95 : decode cX4_fill 95 = .ok (.iaload, 1) := by decide +kernel
theorem dX4_fill_96 : decode cX4_fill 96 = .ok (.imul, 1) := by decide +kernel
theorem dX4_fill_97 : decode cX4_fill 97 = .ok (.invokevirtual 50, 3) := by decide +kernel
theorem dX4_fill_100 : decode cX4_fill 100 = .ok (.aload_n 0, 1) := by decide +kernel
theorem dX4_fill_101 : decode cX4_fill 101 = .ok (.iload_n 1, 1) := by decide +kernel
theorem dX4_fill_102 : decode cX4_fill 102 = .ok (.iconst 1, 1) := by decide +kernel
theorem dX4_fill_103 : decode cX4_fill 103 = .ok (.aload_n 0, 1) := by decide +kernel
theorem dX4_fill_104 : decode cX4_fill 104 = .ok (.iload_n 1, 1) := by decide +kernel
theorem dX4_fill_105 : decode cX4_fill 105 = .ok (.iconst 1, 1) := by decide +kernel
theorem dX4_fill_106 : decode cX4_fill 106 = .ok (.invokevirtual 57, 3) := by decide +kernel
theorem dX4_fill_109 : decode cX4_fill 109 = .ok (.iconst 1, 1) := by decide +kernel
theorem dX4_fill_110 : decode cX4_fill 110 = .ok (.iadd, 1) := by decide +kernel
theorem dX4_fill_111 : decode cX4_fill 111 = .ok (.invokevirtual 50, 3) := by decide +kernel
theorem dX4_fill_114 : decode cX4_fill 114 = .ok (.bipush 10, 2) := by decide +kernel
theorem dX4_fill_116 : decode cX4_fill 116 = .ok (.aload_n 0, 1) := by decide +kernel
theorem dX4_fill_117 : decode cX4_fill 117 = .ok (.getfield 13, 3) := by decide +kernel
theorem dX4_fill_120 : decode cX4_fill 120 = .ok (.iload_n 2, 1) := by decide +kernel
theorem dX4_fill_121 : decode cX4_fill 121 = .ok (.iaload, 1) := by decide +kernel
theorem dX4_fill_122 : decode cX4_fill 122 = .ok (.imul, 1) := by decide +kernel
theorem dX4_fill_123 : decode cX4_fill 123 = .ok (.invokestatic 61, 3) := by decide +kernel
theorem dX4_fill_126 : decode cX4_fill 126 = .ok (.ireturn, 1) := by decide +kernel
set_option maxRecDepth 20000 in
theorem ggX4_go_X4_isSledge : GoodIn wsX4_go wsX4_isSledge := goodIn_r _ [6, 7, 8, 9, 5, 10, 24, 25, 26, 27, 28, 29, 30, 31, 32] (by decide +kernel) (by decide +kernel)
set_option maxRecDepth 20000 in
theorem gX4_go_X4_isSledge : GoodIn wsX4_go (wsV RX4 54 RX4 yX4_isSledge wsX4_isSledge) := goodIn_app (goodIn_of _ (by decide +kernel)) ggX4_go_X4_isSledge
set_option maxRecDepth 20000 in
theorem ggX4_go_X4_fail : GoodIn wsX4_go wsX4_fail := goodIn_r _ [14, 1, 24, 25, 26, 27, 28, 29, 30, 31, 32] (by decide +kernel) (by decide +kernel)
set_option maxRecDepth 20000 in
theorem gX4_go_X4_fail : GoodIn wsX4_go (wsV RX4 46 RX4 yX4_fail wsX4_fail) := goodIn_app (goodIn_of _ (by decide +kernel)) ggX4_go_X4_fail
set_option maxRecDepth 20000 in
theorem ggX4_go_X4_sl : GoodIn wsX4_go wsX4_sl := goodIn_r _ [18, 19, 24, 25, 26, 27, 28, 29, 30, 31, 32] (by decide +kernel) (by decide +kernel)
set_option maxRecDepth 20000 in
theorem gX4_go_X4_sl : GoodIn wsX4_go (wsV RX4 57 RX4 yX4_sl wsX4_sl) := goodIn_app (goodIn_of _ (by decide +kernel)) ggX4_go_X4_sl
set_option maxRecDepth 20000 in
theorem ggX4_go_X4_put : GoodIn wsX4_go wsX4_put := goodIn_r _ [23, 19, 24, 25, 26, 27, 28, 29, 30, 31, 32] (by decide +kernel) (by decide +kernel)
set_option maxRecDepth 20000 in
theorem gX4_go_X4_put : GoodIn wsX4_go (wsV RX4 50 RX4 yX4_put wsX4_put) := goodIn_app (goodIn_of _ (by decide +kernel)) ggX4_go_X4_put
theorem dX4_go_0 : decode cX4_go 0 = .ok (.aload_n 0, 1) := by decide +kernel
theorem dX4_go_1 : decode cX4_go 1 = .ok (.iconst 0, 1) := by decide +kernel
theorem dX4_go_2 : decode cX4_go 2 = .ok (.putfield 28, 3) := by decide +kernel
theorem dX4_go_5 : decode cX4_go 5 = .ok (.aload_n 0, 1) := by decide +kernel
theorem dX4_go_6 : decode cX4_go 6 = .ok (.iload_n 1, 1) := by decide +kernel
theorem dX4_go_7 : decode cX4_go 7 = .ok (.invokevirtual 54, 3) := by decide +kernel
theorem dX4_go_10 : decode cX4_go 10 = .ok (.ifCond .ne 9, 3) := by decide +kernel
theorem dX4_go_13 : decode cX4_go 13 = .ok (.aload_n 0, 1) := by decide +kernel
theorem dX4_go_14 : decode cX4_go 14 = .ok (.iconst 1, 1) := by decide +kernel
theorem dX4_go_15 : decode cX4_go 15 = .ok (.invokevirtual 46, 3) := by decide +kernel
theorem dX4_go_18 : decode cX4_go 18 = .ok (.ireturn, 1) := by decide +kernel
theorem dX4_go_19 : decode cX4_go 19 = .ok (.aload_n 0, 1) := by decide +kernel
theorem dX4_go_20 : decode cX4_go 20 = .ok (.iload_n 1, 1) := by decide +kernel
theorem dX4_go_21 : decode cX4_go 21 = .ok (.iconst 3, 1) := by decide +kernel
theorem dX4_go_22 : decode cX4_go 22 = .ok (.invokevirtual 57, 3) := by decide +kernel
theorem dX4_go_25 : decode cX4_go 25 = .ok (.ifCond .eq 9, 3) := by decide +kernel
theorem dX4_go_28 : decode cX4_go 28 = .ok (.aload_n 0, 1) := by decide +kernel
theorem dX4_go_29 : decode cX4_go 29 = .ok (.iconst 2, 1) := by decide +kernel
theorem dX4_go_30 : decode cX4_go 30 = .ok (.invokevirtual 46, 3) := by decide +kernel
theorem dX4_go_33 : decode cX4_go 33 = .ok (.ireturn, 1) := by decide +kernel
theorem dX4_go_34 : decode cX4_go 34 = .ok (.aload_n 0, 1) := by decide +kernel
theorem dX4_go_35 : decode cX4_go 35 = .ok (.iload_n 1, 1) := by decide +kernel
theorem dX4_go_36 : decode cX4_go 36 = .ok (.iconst 3, 1) := by decide +kernel
theorem dX4_go_37 : decode cX4_go 37 = .ok (.iconst 1, 1) := by decide +kernel
theorem dX4_go_38 : decode cX4_go 38 = .ok (.invokevirtual 50, 3) := by decide +kernel
theorem dX4_go_41 : decode cX4_go 41 = .ok (.aload_n 0, 1) := by decide +kernel
theorem dX4_go_42 : decode cX4_go 42 = .ok (.iload_n 1, 1) := by decide +kernel
theorem dX4_go_43 : decode cX4_go 43 = .ok (.iconst 1, 1) := by decide +kernel
theorem dX4_go_44 : decode cX4_go 44 = .ok (.invokevirtual 57, 3) := by decide +kernel
theorem dX4_go_47 : decode cX4_go 47 = .ok (.ireturn, 1) := by decide +kernel
set_option maxRecDepth 20000 in
theorem ggX4_launch_X4_isIn : GoodIn wsX4_launch wsX4_isIn := goodIn_r _ [7] (by decide +kernel) (by decide +kernel)
set_option maxRecDepth 20000 in
theorem gX4_launch_X4_isIn : GoodIn wsX4_launch (va_wsS RX4 35 yX4_isIn wsX4_isIn) := goodIn_app (goodIn_of _ (by decide +kernel)) ggX4_launch_X4_isIn
set_option maxRecDepth 20000 in
theorem ggX4_launch_X4_fail : GoodIn wsX4_launch wsX4_fail := goodIn_r _ [11, 1, 12, 13, 14, 15, 16, 17, 18, 19, 20] (by decide +kernel) (by decide +kernel)
set_option maxRecDepth 20000 in
theorem gX4_launch_X4_fail : GoodIn wsX4_launch (wsV RX4 46 RX4 yX4_fail wsX4_fail) := goodIn_app (goodIn_of _ (by decide +kernel)) ggX4_launch_X4_fail
theorem dX4_launch_0 : decode cX4_launch 0 = .ok (.aload_n 0, 1) := by decide +kernel
theorem dX4_launch_1 : decode cX4_launch 1 = .ok (.iconst 0, 1) := by decide +kernel
theorem dX4_launch_2 : decode cX4_launch 2 = .ok (.putfield 28, 3) := by decide +kernel
theorem dX4_launch_5 : decode cX4_launch 5 = .ok (.iload_n 1, 1) := by decide +kernel
theorem dX4_launch_6 : decode cX4_launch 6 = .ok (.bipush 100, 2) := by decide +kernel
theorem dX4_launch_8 : decode cX4_launch 8 = .ok (.sipush 900, 3) := by decide +kernel
theorem dX4_launch_11 : decode cX4_launch 11 = .ok (.invokestatic 35, 3) := by decide +kernel
theorem dX4_launch_14 : decode cX4_launch 14 = .ok (.ifCond .ne 9, 3) := by decide +kernel
theorem dX4_launch_17 : decode cX4_launch 17 = .ok (.aload_n 0, 1) := by decide +kernel
theorem dX4_launch_18 : decode cX4_launch 18 = .ok (.iconst 1, 1) := by decide +kernel
theorem dX4_launch_19 : decode cX4_launch 19 = .ok (.invokevirtual 46, 3) := by decide +kernel
theorem dX4_launch_22 : decode cX4_launch 22 = .ok (.ireturn, 1) := by decide +kernel
theorem dX4_launch_23 : decode cX4_launch 23 = .ok (.aload_n 0, 1) := by decide +kernel
theorem dX4_launch_24 : decode cX4_launch 24 = .ok (.getfield 39, 3) := by decide +kernel
theorem dX4_launch_27 : decode cX4_launch 27 = .ok (.iconst 4, 1) := by decide +kernel
theorem dX4_launch_28 : decode cX4_launch 28 = .ok (.if_icmp .ne 9, 3) := by decide +kernel
theorem dX4_launch_31 : decode cX4_launch 31 = .ok (.aload_n 0, 1) := by decide +kernel
theorem dX4_launch_32 : decode cX4_launch 32 = .ok (.iconst 2, 1) := by decide +kernel
theorem dX4_launch_33 : decode cX4_launch 33 = .ok (.invokevirtual 46, 3) := by decide +kernel
theorem dX4_launch_36 : decode cX4_launch 36 = .ok (.ireturn, 1) := by decide +kernel
theorem dX4_launch_37 : decode cX4_launch 37 = .ok (.aload_n 0, 1) := by decide +kernel
theorem dX4_launch_38 : decode cX4_launch 38 = .ok (.getfield 22, 3) := by decide +kernel
theorem dX4_launch_41 : decode cX4_launch 41 = .ok (.iconst 3, 1) := by decide +kernel
theorem dX4_launch_42 : decode cX4_launch 42 = .ok (.aload_n 0, 1) := by decide +kernel
theorem dX4_launch_43 : decode cX4_launch 43 = .ok (.getfield 39, 3) := by decide +kernel
theorem dX4_launch_46 : decode cX4_launch 46 = .ok (.imul, 1) := by decide +kernel
theorem dX4_launch_47 : decode cX4_launch 47 = .ok (.iconst 0, 1) := by decide +kernel
theorem dX4_launch_48 : decode cX4_launch 48 = .ok (.iadd, 1) := by decide +kernel
theorem dX4_launch_49 : decode cX4_launch 49 = .ok (.iload_n 1, 1) := by decide +kernel
theorem dX4_launch_50 : decode cX4_launch 50 = .ok (.iastore, 1) := by decide +kernel
theorem dX4_launch_51 : decode cX4_launch 51 = .ok (.aload_n 0, 1) := by decide +kernel
theorem dX4_launch_52 : decode cX4_launch 52 = .ok (.dup, 1) := by decide +kernel
theorem dX4_launch_53 : decode cX4_launch 53 = .ok (.getfield 39, 3) := by decide +kernel
theorem dX4_launch_56 : decode cX4_launch 56 = .ok (.iconst 1, 1) := by decide +kernel
theorem dX4_launch_57 : decode cX4_launch 57 = .ok (.iadd, 1) := by decide +kernel
theorem dX4_launch_58 : decode cX4_launch 58 = .ok (.putfield 39, 3) := by decide +kernel
theorem dX4_launch_61 : decode cX4_launch 61 = .ok (.aload_n 0, 1) := by decide +kernel
theorem dX4_launch_62 : decode cX4_launch 62 = .ok (.getfield 39, 3) := by decide +kernel
theorem dX4_launch_65 : decode cX4_launch 65 = .ok (.iconst 1, 1) := by decide +kernel
theorem dX4_launch_66 : decode cX4_launch 66 = .ok (.isub, 1) := by decide +kernel
theorem dX4_launch_67 : decode cX4_launch 67 = .ok (.ireturn, 1) := by decide +kernel
set_option maxRecDepth 20000 in
theorem ggX4_all_X4_bo : GoodIn wsX4_all wsX4_bo := goodIn_r _ [5, 6, 7, 8, 9, 10, 11, 12, 13, 14, 15] (by decide +kernel) (by decide +kernel)
set_option maxRecDepth 20000 in
theorem gX4_all_X4_bo : GoodIn wsX4_all (wsV RX4 64 RX4 yX4_bo wsX4_bo) := goodIn_app (goodIn_of _ (by decide +kernel)) ggX4_all_X4_bo
theorem dX4_all_0 : decode cX4_all 0 = .ok (.aload_n 0, 1) := by decide +kernel
theorem dX4_all_1 : decode cX4_all 1 = .ok (.iload_n 1, 1) := by decide +kernel
theorem dX4_all_2 : decode cX4_all 2 = .ok (.iconst 1, 1) := by decide +kernel
theorem dX4_all_3 : decode cX4_all 3 = .ok (.invokevirtual 64, 3) := by decide +kernel
theorem dX4_all_6 : decode cX4_all 6 = .ok (.aload_n 0, 1) := by decide +kernel
theorem dX4_all_7 : decode cX4_all 7 = .ok (.iload_n 1, 1) := by decide +kernel
theorem dX4_all_8 : decode cX4_all 8 = .ok (.iconst 2, 1) := by decide +kernel
theorem dX4_all_9 : decode cX4_all 9 = .ok (.invokevirtual 64, 3) := by decide +kernel
theorem dX4_all_12 : decode cX4_all 12 = .ok (.iadd, 1) := by decide +kernel
theorem dX4_all_13 : decode cX4_all 13 = .ok (.ireturn, 1) := by decide +kernel
theorem dX4_stowed_0 : decode cX4_stowed 0 = .ok (.iload_n 0, 1) := by decide +kernel
theorem dX4_stowed_1 : decode cX4_stowed 1 = .ok (.ifCond .ne 8, 3) := by decide +kernel
theorem dX4_stowed_4 : decode cX4_stowed 4 = .ok (.bipush 80, 2) := by decide +kernel
theorem dX4_stowed_6 : decode cX4_stowed 6 = .ok (.goto 15, 3) := by decide +kernel
theorem dX4_stowed_9 : decode cX4_stowed 9 = .ok (.iload_n 0, 1) := by decide +kernel
theorem dX4_stowed_10 : decode cX4_stowed 10 = .ok (.iconst 1, 1) := by decide +kernel
theorem dX4_stowed_11 : decode cX4_stowed 11 = .ok (.if_icmp .ne 8, 3) := by decide +kernel
theorem dX4_stowed_14 : decode cX4_stowed 14 = .ok (.bipush 50, 2) := by decide +kernel
theorem dX4_stowed_16 : decode cX4_stowed 16 = .ok (.goto 5, 3) := by decide +kernel
theorem dX4_stowed_19 : decode cX4_stowed 19 = .ok (.bipush 20, 2) := by decide +kernel
theorem dX4_stowed_21 : decode cX4_stowed 21 = .ok (.ireturn, 1) := by decide +kernel
theorem dX4_depth_0 : decode cX4_depth 0 = .ok (.iload_n 0, 1) := by decide +kernel
theorem dX4_depth_1 : decode cX4_depth 1 = .ok (.iload_n 1, 1) := by decide +kernel
theorem dX4_depth_2 : decode cX4_depth 2 = .ok (.iadd, 1) := by decide +kernel
theorem dX4_depth_3 : decode cX4_depth 3 = .ok (.bipush 50, 2) := by decide +kernel
theorem dX4_depth_5 : decode cX4_depth 5 = .ok (.idiv, 1) := by decide +kernel
theorem dX4_depth_6 : decode cX4_depth 6 = .ok (.iload_n 0, 1) := by decide +kernel
theorem dX4_depth_7 : decode cX4_depth 7 = .ok (.iload_n 1, 1) := by decide +kernel
theorem dX4_depth_8 : decode cX4_depth 8 = .ok (.isub, 1) := by decide +kernel
theorem dX4_depth_9 : decode cX4_depth 9 = .ok (.invokestatic 67, 3) := by decide +kernel
theorem dX4_depth_12 : decode cX4_depth 12 = .ok (.bipush 40, 2) := by decide +kernel
theorem dX4_depth_14 : decode cX4_depth 14 = .ok (.idiv, 1) := by decide +kernel
theorem dX4_depth_15 : decode cX4_depth 15 = .ok (.iadd, 1) := by decide +kernel
theorem dX4_depth_16 : decode cX4_depth 16 = .ok (.ireturn, 1) := by decide +kernel
set_option maxRecDepth 20000 in
theorem ggX4_canSail_X4_bo : GoodIn wsX4_canSail wsX4_bo := goodIn_r _ [5, 6, 17, 18, 19, 20, 21, 22, 23, 24, 25] (by decide +kernel) (by decide +kernel)
set_option maxRecDepth 20000 in
theorem gX4_canSail_X4_bo : GoodIn wsX4_canSail (wsV RX4 64 RX4 yX4_bo wsX4_bo) := goodIn_app (goodIn_of _ (by decide +kernel)) ggX4_canSail_X4_bo
set_option maxRecDepth 20000 in
theorem ggX4_canSail_X4_depth : GoodIn wsX4_canSail wsX4_depth := goodIn_r _ [9, 10, 11, 12, 13] (by decide +kernel) (by decide +kernel)
set_option maxRecDepth 20000 in
theorem gX4_canSail_X4_depth : GoodIn wsX4_canSail (va_wsS RX4 72 yX4_depth wsX4_depth) := goodIn_app (goodIn_of _ (by decide +kernel)) ggX4_canSail_X4_depth
set_option maxRecDepth 20000 in
theorem ggX4_canSail_X4_isIn : GoodIn wsX4_canSail wsX4_isIn := goodIn_r _ [16] (by decide +kernel) (by decide +kernel)
set_option maxRecDepth 20000 in
theorem gX4_canSail_X4_isIn : GoodIn wsX4_canSail (va_wsS RX4 35 yX4_isIn wsX4_isIn) := goodIn_app (goodIn_of _ (by decide +kernel)) ggX4_canSail_X4_isIn
theorem dX4_canSail_0 : decode cX4_canSail 0 = .ok (.aload_n 0, 1) := by decide +kernel
theorem dX4_canSail_1 : decode cX4_canSail 1 = .ok (.iload_n 1, 1) := by decide +kernel
theorem dX4_canSail_2 : decode cX4_canSail 2 = .ok (.iconst 1, 1) := by decide +kernel
theorem dX4_canSail_3 : decode cX4_canSail 3 = .ok (.invokevirtual 64, 3) := by decide +kernel
theorem dX4_canSail_6 : decode cX4_canSail 6 = .ok (.aload_n 0, 1) := by decide +kernel
theorem dX4_canSail_7 : decode cX4_canSail 7 = .ok (.iload_n 1, 1) := by decide +kernel
theorem dX4_canSail_8 : decode cX4_canSail 8 = .ok (.iconst 2, 1) := by decide +kernel
theorem dX4_canSail_9 : decode cX4_canSail 9 = .ok (.invokevirtual 64, 3) := by decide +kernel
theorem dX4_canSail_12 : decode cX4_canSail 12 = .ok (.invokestatic 72, 3) := by decide +kernel
theorem dX4_canSail_15 : decode cX4_canSail 15 = .ok (.bipush 20, 2) := by decide +kernel
theorem dX4_canSail_17 : decode cX4_canSail 17 = .ok (.if_icmp .gt 30, 3) := by decide +kernel
theorem dX4_canSail_20 : decode cX4_canSail 20 = .ok (.aload_n 0, 1) := by decide +kernel
theorem dX4_canSail_21 : decode cX4_canSail 21 = .ok (.iload_n 1, 1) := by decide +kernel
theorem dX4_canSail_22 : decode cX4_canSail 22 = .ok (.iconst 1, 1) := by decide +kernel
theorem dX4_canSail_23 : decode cX4_canSail 23 = .ok (.invokevirtual 64, 3) := by decide +kernel
theorem dX4_canSail_26 : decode cX4_canSail 26 = .ok (.aload_n 0, 1) := by decide +kernel
theorem dX4_canSail_27 : decode cX4_canSail 27 = .ok (.iload_n 1, 1) := by decide +kernel
theorem dX4_canSail_28 : decode cX4_canSail 28 = .ok (.iconst 2, 1) := by decide +kernel
theorem dX4_canSail_29 : decode cX4_canSail 29 = .ok (.invokevirtual 64, 3) := by decide +kernel
theorem dX4_canSail_32 : decode cX4_canSail 32 = .ok (.isub, 1) := by decide +kernel
theorem dX4_canSail_33 : decode cX4_canSail 33 = .ok (.bipush (-100), 2) := by decide +kernel
theorem dX4_canSail_35 : decode cX4_canSail 35 = .ok (.bipush 100, 2) := by decide +kernel
theorem dX4_canSail_37 : decode cX4_canSail 37 = .ok (.invokestatic 35, 3) := by decide +kernel
theorem dX4_canSail_40 : decode cX4_canSail 40 = .ok (.ifCond .eq 7, 3) := by decide +kernel
theorem dX4_canSail_43 : decode cX4_canSail 43 = .ok (.iconst 1, 1) := by decide +kernel
theorem dX4_canSail_44 : decode cX4_canSail 44 = .ok (.goto 4, 3) := by decide +kernel
theorem dX4_canSail_47 : decode cX4_canSail 47 = .ok (.iconst 0, 1) := by decide +kernel
theorem dX4_canSail_48 : decode cX4_canSail 48 = .ok (.ireturn, 1) := by decide +kernel
set_option maxRecDepth 20000 in
theorem ggX4_stow_X4_isBoat : GoodIn wsX4_stow wsX4_isBoat := goodIn_r _ [8, 9, 10, 11, 7, 12, 28, 29, 30, 31, 32, 33, 34, 35, 36] (by decide +kernel) (by decide +kernel)
set_option maxRecDepth 20000 in
theorem gX4_stow_X4_isBoat : GoodIn wsX4_stow (wsV RX4 75 RX4 yX4_isBoat wsX4_isBoat) := goodIn_app (goodIn_of _ (by decide +kernel)) ggX4_stow_X4_isBoat
set_option maxRecDepth 20000 in
theorem ggX4_stow_X4_isIn : GoodIn wsX4_stow wsX4_isIn := goodIn_r _ [12] (by decide +kernel) (by decide +kernel)
set_option maxRecDepth 20000 in
theorem gX4_stow_X4_isIn : GoodIn wsX4_stow (va_wsS RX4 35 yX4_isIn wsX4_isIn) := goodIn_app (goodIn_of _ (by decide +kernel)) ggX4_stow_X4_isIn
set_option maxRecDepth 20000 in
theorem ggX4_stow_X4_fail : GoodIn wsX4_stow wsX4_fail := goodIn_r _ [16, 1, 28, 29, 30, 31, 32, 33, 34, 35, 36] (by decide +kernel) (by decide +kernel)
set_option maxRecDepth 20000 in
theorem gX4_stow_X4_fail : GoodIn wsX4_stow (wsV RX4 46 RX4 yX4_fail wsX4_fail) := goodIn_app (goodIn_of _ (by decide +kernel)) ggX4_stow_X4_fail
set_option maxRecDepth 20000 in
theorem ggX4_stow_X4_all : GoodIn wsX4_stow wsX4_all := goodIn_r _ [20, 21, 22, 23, 7, 24, 3, 28, 29, 30, 31, 32, 33, 34, 35, 36] (by decide +kernel) (by decide +kernel)
set_option maxRecDepth 20000 in
theorem gX4_stow_X4_all : GoodIn wsX4_stow (wsV RX4 78 RX4 yX4_all wsX4_all) := goodIn_app (goodIn_of _ (by decide +kernel)) ggX4_stow_X4_all
set_option maxRecDepth 20000 in
theorem ggX4_stow_X4_stowed : GoodIn wsX4_stow wsX4_stowed := goodIn_r _ [27] (by decide +kernel) (by decide +kernel)
set_option maxRecDepth 20000 in
theorem gX4_stow_X4_stowed : GoodIn wsX4_stow (va_wsS RX4 81 yX4_stowed wsX4_stowed) := goodIn_app (goodIn_of _ (by decide +kernel)) ggX4_stow_X4_stowed
set_option maxRecDepth 20000 in
theorem ggX4_stow_X4_bo : GoodIn wsX4_stow wsX4_bo := goodIn_r _ [24, 3, 28, 29, 30, 31, 32, 33, 34, 35, 36] (by decide +kernel) (by decide +kernel)
set_option maxRecDepth 20000 in
theorem gX4_stow_X4_bo : GoodIn wsX4_stow (wsV RX4 64 RX4 yX4_bo wsX4_bo) := goodIn_app (goodIn_of _ (by decide +kernel)) ggX4_stow_X4_bo
theorem dX4_stow_0 : decode cX4_stow 0 = .ok (.aload_n 0, 1) := by decide +kernel
theorem dX4_stow_1 : decode cX4_stow 1 = .ok (.iconst 0, 1) := by decide +kernel
theorem dX4_stow_2 : decode cX4_stow 2 = .ok (.putfield 28, 3) := by decide +kernel
theorem dX4_stow_5 : decode cX4_stow 5 = .ok (.aload_n 0, 1) := by decide +kernel
theorem dX4_stow_6 : decode cX4_stow 6 = .ok (.iload_n 1, 1) := by decide +kernel
theorem dX4_stow_7 : decode cX4_stow 7 = .ok (.invokevirtual 75, 3) := by decide +kernel
theorem dX4_stow_10 : decode cX4_stow 10 = .ok (.ifCond .eq 12, 3) := by decide +kernel
theorem dX4_stow_13 : decode cX4_stow 13 = .ok (.iload_n 2, 1) := by decide +kernel
theorem dX4_stow_14 : decode cX4_stow 14 = .ok (.iconst 0, 1) := by decide +kernel
theorem dX4_stow_15 : decode cX4_stow 15 = .ok (.iconst 2, 1) := by decide +kernel
theorem dX4_stow_16 : decode cX4_stow 16 = .ok (.invokestatic 35, 3) := by decide +kernel
theorem dX4_stow_19 : decode cX4_stow 19 = .ok (.ifCond .ne 9, 3) := by decide +kernel
theorem dX4_stow_22 : decode cX4_stow 22 = .ok (.aload_n 0, 1) := by decide +kernel
theorem dX4_stow_23 : decode cX4_stow 23 = .ok (.iconst 1, 1) := by decide +kernel
theorem dX4_stow_24 : decode cX4_stow 24 = .ok (.invokevirtual 46, 3) := by decide +kernel
theorem dX4_stow_27 : decode cX4_stow 27 = .ok (.ireturn, 1) := by decide +kernel
theorem dX4_stow_28 : decode cX4_stow 28 = .ok (.aload_n 0, 1) := by decide +kernel
theorem dX4_stow_29 : decode cX4_stow 29 = .ok (.getfield 25, 3) := by decide +kernel
theorem dX4_stow_32 : decode cX4_stow 32 = .ok (.iconst 3, 1) := by decide +kernel
theorem dX4_stow_33 : decode cX4_stow 33 = .ok (.iload_n 2, 1) := by decide +kernel
theorem dX4_stow_34 : decode cX4_stow 34 = .ok (.iadd, 1) := by decide +kernel
theorem dX4_stow_35 : decode cX4_stow 35 = .ok (.iaload, 1) := by decide +kernel
theorem dX4_stow_36 : decode cX4_stow 36 = .ok (.ifCond .eq 22, 3) := by decide +kernel
theorem dX4_stow_39 : decode cX4_stow 39 = .ok (.aload_n 0, 1) := by decide +kernel
theorem dX4_stow_40 : decode cX4_stow 40 = .ok (.iload_n 1, 1) := by decide +kernel
theorem dX4_stow_41 : decode cX4_stow 41 = .ok (.invokevirtual 78, 3) := by decide +kernel
theorem dX4_stow_44 : decode cX4_stow 44 = .ok (.iload_n 2, 1) := by decide +kernel
theorem dX4_stow_45 : decode cX4_stow 45 = .ok (.invokestatic 81, 3) := by decide +kernel
theorem dX4_stow_48 : decode cX4_stow 48 = .ok (.iadd, 1) := by decide +kernel
theorem dX4_stow_49 : decode cX4_stow 49 = .ok (.aload_n 0, 1) := by decide +kernel
theorem dX4_stow_50 : decode cX4_stow 50 = .ok (.iload_n 1, 1) := by decide +kernel
theorem dX4_stow_51 : decode cX4_stow 51 = .ok (.iconst 0, 1) := by decide +kernel
theorem dX4_stow_52 : decode cX4_stow 52 = .ok (.invokevirtual 64, 3) := by decide +kernel
theorem dX4_stow_55 : decode cX4_stow 55 = .ok (.if_icmp .le 9, 3) := by decide +kernel
theorem dX4_stow_58 : decode cX4_stow 58 = .ok (.aload_n 0, 1) := by decide +kernel
theorem dX4_stow_59 : decode cX4_stow 59 = .ok (.iconst 2, 1) := by decide +kernel
theorem dX4_stow_60 : decode cX4_stow 60 = .ok (.invokevirtual 46, 3) := by decide +kernel
theorem dX4_stow_63 : decode cX4_stow 63 = .ok (.ireturn, 1) := by decide +kernel
theorem dX4_stow_64 : decode cX4_stow 64 = .ok (.aload_n 0, 1) := by decide +kernel
theorem dX4_stow_65 : decode cX4_stow 65 = .ok (.getfield 25, 3) := by decide +kernel
theorem dX4_stow_68 : decode cX4_stow 68 = .ok (.iconst 3, 1) := by decide +kernel
theorem dX4_stow_69 : decode cX4_stow 69 = .ok (.iload_n 2, 1) := by decide +kernel
theorem dX4_stow_70 : decode cX4_stow 70 = .ok (.iadd, 1) := by decide +kernel
theorem dX4_stow_71 : decode cX4_stow 71 = .ok (.dup2, 1) := by decide +kernel
theorem dX4_stow_72 : decode cX4_stow 72 = .ok (.iaload, 1) := by decide +kernel
theorem dX4_stow_73 : decode cX4_stow 73 = .ok (.iconst 1, 1) := by decide +kernel
theorem dX4_stow_74 : decode cX4_stow 74 = .ok (.isub, 1) := by decide +kernel
theorem dX4_stow_75 : decode cX4_stow 75 = .ok (.iastore, 1) := by decide +kernel
theorem dX4_stow_76 : decode cX4_stow 76 = .ok (.aload_n 0, 1) := by decide +kernel
theorem dX4_stow_77 : decode cX4_stow 77 = .ok (.getfield 22, 3) := by decide +kernel
theorem dX4_stow_80 : decode cX4_stow 80 = .ok (.iconst 3, 1) := by decide +kernel
theorem dX4_stow_81 : decode cX4_stow 81 = .ok (.iload_n 1, 1) := by decide +kernel
theorem dX4_stow_82 : decode cX4_stow 82 = .ok (.imul, 1) := by decide +kernel
theorem dX4_stow_83 : decode cX4_stow 83 = .ok (.iload_n 3, 1) := by decide +kernel
theorem dX4_stow_84 : decode cX4_stow 84 = .ok (.ifCond .eq 7, 3) := by decide +kernel
theorem dX4_stow_87 : decode cX4_stow 87 = .ok (.iconst 1, 1) := by decide +kernel
theorem dX4_stow_88 : decode cX4_stow 88 = .ok (.goto 4, 3) := by decide +kernel
theorem dX4_stow_91 : decode cX4_stow 91 = .ok (.iconst 2, 1) := by decide +kernel
theorem dX4_stow_92 : decode cX4_stow 92 = .ok (.iadd, 1) := by decide +kernel
theorem dX4_stow_93 : decode cX4_stow 93 = .ok (.dup2, 1) := by decide +kernel
theorem dX4_stow_94 : decode cX4_stow 94 = .ok (.iaload, 1) := by decide +kernel
theorem dX4_stow_95 : decode cX4_stow 95 = .ok (.iload_n 2, 1) := by decide +kernel
theorem dX4_stow_96 : decode cX4_stow 96 = .ok (.invokestatic 81, 3) := by decide +kernel
theorem dX4_stow_99 : decode cX4_stow 99 = .ok (.iadd, 1) := by decide +kernel
theorem dX4_stow_100 : decode cX4_stow 100 = .ok (.iastore, 1) := by decide +kernel
theorem dX4_stow_101 : decode cX4_stow 101 = .ok (.aload_n 0, 1) := by decide +kernel
theorem dX4_stow_102 : decode cX4_stow 102 = .ok (.iload_n 1, 1) := by decide +kernel
theorem dX4_stow_103 : decode cX4_stow 103 = .ok (.iconst 1, 1) := by decide +kernel
theorem dX4_stow_104 : decode cX4_stow 104 = .ok (.invokevirtual 64, 3) := by decide +kernel
theorem dX4_stow_107 : decode cX4_stow 107 = .ok (.aload_n 0, 1) := by decide +kernel
theorem dX4_stow_108 : decode cX4_stow 108 = .ok (.iload_n 1, 1) := by decide +kernel
theorem dX4_stow_109 : decode cX4_stow 109 = .ok (.iconst 2, 1) := by decide +kernel
theorem dX4_stow_110 : decode cX4_stow 110 = .ok (.invokevirtual 64, 3) := by decide +kernel
theorem dX4_stow_113 : decode cX4_stow 113 = .ok (.isub, 1) := by decide +kernel
theorem dX4_stow_114 : decode cX4_stow 114 = .ok (.ireturn, 1) := by decide +kernel
set_option maxRecDepth 20000 in
theorem ggX4_sail_X4_isBoat : GoodIn wsX4_sail wsX4_isBoat := goodIn_r _ [8, 9, 10, 11, 7, 12, 36, 37, 38, 39, 40, 41, 42, 43, 44] (by decide +kernel) (by decide +kernel)
set_option maxRecDepth 20000 in
theorem gX4_sail_X4_isBoat : GoodIn wsX4_sail (wsV RX4 75 RX4 yX4_isBoat wsX4_isBoat) := goodIn_app (goodIn_of _ (by decide +kernel)) ggX4_sail_X4_isBoat
set_option maxRecDepth 20000 in
theorem ggX4_sail_X4_fail : GoodIn wsX4_sail wsX4_fail := goodIn_r _ [16, 1, 36, 37, 38, 39, 40, 41, 42, 43, 44] (by decide +kernel) (by decide +kernel)
set_option maxRecDepth 20000 in
theorem gX4_sail_X4_fail : GoodIn wsX4_sail (wsV RX4 46 RX4 yX4_fail wsX4_fail) := goodIn_app (goodIn_of _ (by decide +kernel)) ggX4_sail_X4_fail
set_option maxRecDepth 20000 in
theorem ggX4_sail_X4_canSail : GoodIn wsX4_sail wsX4_canSail := goodIn_r _ [20, 21, 22, 23, 7, 24, 2, 25, 26, 27, 28, 29, 30, 31, 10, 11, 12, 36, 37, 38, 39, 40, 41, 42, 43, 44] (by decide +kernel) (by decide +kernel)
set_option maxRecDepth 20000 in
theorem gX4_sail_X4_canSail : GoodIn wsX4_sail (wsV RX4 84 RX4 yX4_canSail wsX4_canSail) := goodIn_app (goodIn_of _ (by decide +kernel)) ggX4_sail_X4_canSail
set_option maxRecDepth 20000 in
theorem ggX4_sail_X4_all : GoodIn wsX4_sail wsX4_all := goodIn_r _ [35, 21, 22, 23, 7, 24, 2, 36, 37, 38, 39, 40, 41, 42, 43, 44] (by decide +kernel) (by decide +kernel)
set_option maxRecDepth 20000 in
theorem gX4_sail_X4_all : GoodIn wsX4_sail (wsV RX4 78 RX4 yX4_all wsX4_all) := goodIn_app (goodIn_of _ (by decide +kernel)) ggX4_sail_X4_all
theorem dX4_sail_0 : decode cX4_sail 0 = .ok (.aload_n 0, 1) := by decide +kernel
theorem dX4_sail_1 : decode cX4_sail 1 = .ok (.iconst 0, 1) := by decide +kernel
theorem dX4_sail_2 : decode cX4_sail 2 = .ok (.putfield 28, 3) := by decide +kernel
theorem dX4_sail_5 : decode cX4_sail 5 = .ok (.aload_n 0, 1) := by decide +kernel
theorem dX4_sail_6 : decode cX4_sail 6 = .ok (.iload_n 1, 1) := by decide +kernel
theorem dX4_sail_7 : decode cX4_sail 7 = .ok (.invokevirtual 75, 3) := by decide +kernel
theorem dX4_sail_10 : decode cX4_sail 10 = .ok (.ifCond .ne 9, 3) := by decide +kernel
theorem dX4_sail_13 : decode cX4_sail 13 = .ok (.aload_n 0, 1) := by decide +kernel
theorem dX4_sail_14 : decode cX4_sail 14 = .ok (.iconst 1, 1) := by decide +kernel
theorem dX4_sail_15 : decode cX4_sail 15 = .ok (.invokevirtual 46, 3) := by decide +kernel
theorem dX4_sail_18 : decode cX4_sail 18 = .ok (.ireturn, 1) := by decide +kernel
theorem dX4_sail_19 : decode cX4_sail 19 = .ok (.aload_n 0, 1) := by decide +kernel
theorem dX4_sail_20 : decode cX4_sail 20 = .ok (.iload_n 1, 1) := by decide +kernel
theorem dX4_sail_21 : decode cX4_sail 21 = .ok (.invokevirtual 84, 3) := by decide +kernel
theorem dX4_sail_24 : decode cX4_sail 24 = .ok (.ifCond .ne 9, 3) := by decide +kernel
theorem dX4_sail_27 : decode cX4_sail 27 = .ok (.aload_n 0, 1) := by decide +kernel
theorem dX4_sail_28 : decode cX4_sail 28 = .ok (.iconst 2, 1) := by decide +kernel
theorem dX4_sail_29 : decode cX4_sail 29 = .ok (.invokevirtual 46, 3) := by decide +kernel
theorem dX4_sail_32 : decode cX4_sail 32 = .ok (.ireturn, 1) := by decide +kernel
theorem dX4_sail_33 : decode cX4_sail 33 = .ok (.iconst 3, 1) := by decide +kernel
theorem dX4_sail_34 : decode cX4_sail 34 = .ok (.aload_n 0, 1) := by decide +kernel
theorem dX4_sail_35 : decode cX4_sail 35 = .ok (.iload_n 1, 1) := by decide +kernel
theorem dX4_sail_36 : decode cX4_sail 36 = .ok (.invokevirtual 78, 3) := by decide +kernel
theorem dX4_sail_39 : decode cX4_sail 39 = .ok (.bipush 10, 2) := by decide +kernel
theorem dX4_sail_41 : decode cX4_sail 41 = .ok (.idiv, 1) := by decide +kernel
theorem dX4_sail_42 : decode cX4_sail 42 = .ok (.imul, 1) := by decide +kernel
theorem dX4_sail_43 : decode cX4_sail 43 = .ok (.istore_n 2, 1) := by decide +kernel
theorem dX4_sail_44 : decode cX4_sail 44 = .ok (.aload_n 0, 1) := by decide +kernel
theorem dX4_sail_45 : decode cX4_sail 45 = .ok (.getfield 22, 3) := by decide +kernel
theorem dX4_sail_48 : decode cX4_sail 48 = .ok (.iconst 3, 1) := by decide +kernel
theorem dX4_sail_49 : decode cX4_sail 49 = .ok (.iload_n 1, 1) := by decide +kernel
theorem dX4_sail_50 : decode cX4_sail 50 = .ok (.imul, 1) := by decide +kernel
theorem dX4_sail_51 : decode cX4_sail 51 = .ok (.iconst 1, 1) := by decide +kernel
theorem dX4_sail_52 : decode cX4_sail 52 = .ok (.iadd, 1) := by decide +kernel
theorem dX4_sail_53 : decode cX4_sail 53 = .ok (.iconst 0, 1) := by decide +kernel
theorem dX4_sail_54 : decode cX4_sail 54 = .ok (.iastore, 1) := by decide +kernel
theorem dX4_sail_55 : decode cX4_sail 55 = .ok (.aload_n 0, 1) := by decide +kernel
theorem dX4_sail_56 : decode cX4_sail 56 = .ok (.getfield 22, 3) := by decide +kernel
theorem dX4_sail_59 : decode cX4_sail 59 = .ok (.iconst 3, 1) := by decide +kernel
theorem dX4_sail_60 : decode cX4_sail 60 = .ok (.iload_n 1, 1) := by decide +kernel
theorem dX4_sail_61 : decode cX4_sail 61 = .ok (.imul, 1) := by decide +kernel
theorem dX4_sail_62 : decode cX4_sail 62 = .ok (.iconst 2, 1) := by decide +kernel
theorem dX4_sail_63 : decode cX4_sail 63 = .ok (.iadd, 1) := by decide +kernel
theorem dX4_sail_64 : decode cX4_sail 64 = .ok (.iconst 0, 1) := by decide +kernel
theorem dX4_sail_65 : decode cX4_sail 65 = .ok (.iastore, 1) := by decide +kernel
theorem dX4_sail_66 : decode cX4_sail 66 = .ok (.aload_n 0, 1) := by decide +kernel
theorem dX4_sail_67 : decode cX4_sail 67 = .ok (.getfield 25, 3) := by decide +kernel
theorem dX4_sail_70 : decode cX4_sail 70 = .ok (.iconst 1, 1) := by decide +kernel
theorem dX4_sail_71 : decode cX4_sail 71 = .ok (.dup2, 1) := by decide +kernel
theorem dX4_sail_72 : decode cX4_sail 72 = .ok (.iaload, 1) := by decide +kernel
theorem dX4_sail_73 : decode cX4_sail 73 = .ok (.iload_n 2, 1) := by decide +kernel
theorem dX4_sail_74 : decode cX4_sail 74 = .ok (.iadd, 1) := by decide +kernel
theorem dX4_sail_75 : decode cX4_sail 75 = .ok (.iastore, 1) := by decide +kernel
theorem dX4_sail_76 : decode cX4_sail 76 = .ok (.iload_n 2, 1) := by decide +kernel
theorem dX4_sail_77 : decode cX4_sail 77 = .ok (.ireturn, 1) := by decide +kernel
set_option maxRecDepth 20000 in
theorem ggX4_layerTold_X4_kind : GoodIn wsX4_layerTold wsX4_kind := goodIn_r _ [6] (by decide +kernel) (by decide +kernel)
set_option maxRecDepth 20000 in
theorem gX4_layerTold_X4_kind : GoodIn wsX4_layerTold (va_wsS RX4 61 yX4_kind wsX4_kind) := goodIn_app (goodIn_of _ (by decide +kernel)) ggX4_layerTold_X4_kind
theorem dX4_layerTold_0 : decode cX4_layerTold 0 = .ok (.iload_n 2, 1) := by decide +kernel
theorem dX4_layerTold_1 : decode cX4_layerTold 1 = .ok (.ifCond .ne 12, 3) := by decide +kernel
theorem dX4_layerTold_4 : decode cX4_layerTold 4 = .ok (.aload_n 0, 1) := by decide +kernel
theorem dX4_layerTold_5 : decode cX4_layerTold 5 = .ok (.getfield 9, 3) := by decide +kernel
theorem dX4_layerTold_8 : decode cX4_layerTold 8 = .ok (.iload_n 1, 1) := by decide +kernel
theorem dX4_layerTold_9 : decode cX4_layerTold 9 = .ok (.iaload, 1) := by decide +kernel
theorem dX4_layerTold_10 : decode cX4_layerTold 10 = .ok (.goto 46, 3) := by decide +kernel
theorem dX4_layerTold_13 : decode cX4_layerTold 13 = .ok (.iload_n 2, 1) := by decide +kernel
theorem dX4_layerTold_14 : decode cX4_layerTold 14 = .ok (.iconst 1, 1) := by decide +kernel
theorem dX4_layerTold_15 : decode cX4_layerTold 15 = .ok (.if_icmp .ne 12, 3) := by decide +kernel
theorem dX4_layerTold_18 : decode cX4_layerTold 18 = .ok (.aload_n 0, 1) := by decide +kernel
theorem dX4_layerTold_19 : decode cX4_layerTold 19 = .ok (.getfield 13, 3) := by decide +kernel
theorem dX4_layerTold_22 : decode cX4_layerTold 22 = .ok (.iload_n 1, 1) := by decide +kernel
theorem dX4_layerTold_23 : decode cX4_layerTold 23 = .ok (.iaload, 1) := by decide +kernel
theorem dX4_layerTold_24 : decode cX4_layerTold 24 = .ok (.goto 32, 3) := by decide +kernel
theorem dX4_layerTold_27 : decode cX4_layerTold 27 = .ok (.iload_n 2, 1) := by decide +kernel
theorem dX4_layerTold_28 : decode cX4_layerTold 28 = .ok (.iconst 2, 1) := by decide +kernel
theorem dX4_layerTold_29 : decode cX4_layerTold 29 = .ok (.if_icmp .ne 18, 3) := by decide +kernel
theorem dX4_layerTold_32 : decode cX4_layerTold 32 = .ok (.bipush 10, 2) := by decide +kernel
theorem dX4_layerTold_34 : decode cX4_layerTold 34 = .ok (.aload_n 0, 1) := by decide +kernel
theorem dX4_layerTold_35 : decode cX4_layerTold 35 = .ok (.getfield 13, 3) := by decide +kernel
theorem dX4_layerTold_38 : decode cX4_layerTold 38 = .ok (.iload_n 1, 1) := by decide +kernel
theorem dX4_layerTold_39 : decode cX4_layerTold 39 = .ok (.iaload, 1) := by decide +kernel
theorem dX4_layerTold_40 : decode cX4_layerTold 40 = .ok (.imul, 1) := by decide +kernel
theorem dX4_layerTold_41 : decode cX4_layerTold 41 = .ok (.invokestatic 61, 3) := by decide +kernel
theorem dX4_layerTold_44 : decode cX4_layerTold 44 = .ok (.goto 12, 3) := by decide +kernel
theorem dX4_layerTold_47 : decode cX4_layerTold 47 = .ok (.aload_n 0, 1) := by decide +kernel
theorem dX4_layerTold_48 : decode cX4_layerTold 48 = .ok (.getfield 9, 3) := by decide +kernel
theorem dX4_layerTold_51 : decode cX4_layerTold 51 = .ok (.iload_n 1, 1) := by decide +kernel
theorem dX4_layerTold_52 : decode cX4_layerTold 52 = .ok (.iaload, 1) := by decide +kernel
theorem dX4_layerTold_53 : decode cX4_layerTold 53 = .ok (.bipush 10, 2) := by decide +kernel
theorem dX4_layerTold_55 : decode cX4_layerTold 55 = .ok (.idiv, 1) := by decide +kernel
theorem dX4_layerTold_56 : decode cX4_layerTold 56 = .ok (.ireturn, 1) := by decide +kernel
set_option maxRecDepth 20000 in
theorem ggX4_layer_X4_isLayer : GoodIn wsX4_layer wsX4_isLayer := goodIn_r _ [5, 6, 7, 4, 8] (by decide +kernel) (by decide +kernel)
set_option maxRecDepth 20000 in
theorem gX4_layer_X4_isLayer : GoodIn wsX4_layer (va_wsS RX4 42 yX4_isLayer wsX4_isLayer) := goodIn_app (goodIn_of _ (by decide +kernel)) ggX4_layer_X4_isLayer
set_option maxRecDepth 20000 in
theorem ggX4_layer_X4_isIn : GoodIn wsX4_layer wsX4_isIn := goodIn_r _ [8] (by decide +kernel) (by decide +kernel)
set_option maxRecDepth 20000 in
theorem gX4_layer_X4_isIn : GoodIn wsX4_layer (va_wsS RX4 35 yX4_isIn wsX4_isIn) := goodIn_app (goodIn_of _ (by decide +kernel)) ggX4_layer_X4_isIn
set_option maxRecDepth 20000 in
theorem ggX4_layer_X4_layerTold : GoodIn wsX4_layer wsX4_layerTold := goodIn_r _ [12, 13, 14, 15, 16, 4, 17, 22, 23, 24, 25, 26, 27, 28, 29, 30] (by decide +kernel) (by decide +kernel)
set_option maxRecDepth 20000 in
theorem gX4_layer_X4_layerTold : GoodIn wsX4_layer (wsV RX4 87 RX4 yX4_layerTold wsX4_layerTold) := goodIn_app (goodIn_of _ (by decide +kernel)) ggX4_layer_X4_layerTold
set_option maxRecDepth 20000 in
theorem ggX4_layer_X4_fail : GoodIn wsX4_layer wsX4_fail := goodIn_r _ [21, 1, 22, 23, 24, 25, 26, 27, 28, 29, 30] (by decide +kernel) (by decide +kernel)
set_option maxRecDepth 20000 in
theorem gX4_layer_X4_fail : GoodIn wsX4_layer (wsV RX4 46 RX4 yX4_fail wsX4_fail) := goodIn_app (goodIn_of _ (by decide +kernel)) ggX4_layer_X4_fail
theorem dX4_layer_0 : decode cX4_layer 0 = .ok (.aload_n 0, 1) := by decide +kernel
theorem dX4_layer_1 : decode cX4_layer 1 = .ok (.iconst 0, 1) := by decide +kernel
theorem dX4_layer_2 : decode cX4_layer 2 = .ok (.putfield 28, 3) := by decide +kernel
theorem dX4_layer_5 : decode cX4_layer 5 = .ok (.iload_n 1, 1) := by decide +kernel
theorem dX4_layer_6 : decode cX4_layer 6 = .ok (.invokestatic 42, 3) := by decide +kernel
theorem dX4_layer_9 : decode cX4_layer 9 = .ok (.ifCond .eq 21, 3) := by decide +kernel
theorem dX4_layer_12 : decode cX4_layer 12 = .ok (.iload_n 2, 1) := by decide +kernel
theorem dX4_layer_13 : decode cX4_layer 13 = .ok (.iconst 0, 1) := by decide +kernel
theorem dX4_layer_14 : decode cX4_layer 14 = .ok (.iconst 3, 1) := by decide +kernel
theorem dX4_layer_15 : decode cX4_layer 15 = .ok (.invokestatic 35, 3) := by decide +kernel
theorem dX4_layer_18 : decode cX4_layer 18 = .ok (.ifCond .eq 12, 3) := by decide +kernel
theorem dX4_layer_21 : decode cX4_layer 21 = .ok (.aload_n 0, 1) := by decide +kernel
theorem dX4_layer_22 : decode cX4_layer 22 = .ok (.iload_n 1, 1) := by decide +kernel
theorem dX4_layer_23 : decode cX4_layer 23 = .ok (.iload_n 2, 1) := by decide +kernel
theorem dX4_layer_24 : decode cX4_layer 24 = .ok (.invokevirtual 87, 3) := by decide +kernel
theorem dX4_layer_27 : decode cX4_layer 27 = .ok (.goto 8, 3) := by decide +kernel
theorem dX4_layer_30 : decode cX4_layer 30 = .ok (.aload_n 0, 1) := by decide +kernel
theorem dX4_layer_31 : decode cX4_layer 31 = .ok (.iconst 1, 1) := by decide +kernel
theorem dX4_layer_32 : decode cX4_layer 32 = .ok (.invokevirtual 46, 3) := by decide +kernel
theorem dX4_layer_35 : decode cX4_layer 35 = .ok (.ireturn, 1) := by decide +kernel
set_option maxRecDepth 20000 in
theorem ggX4_sledgeTold_X4_sl : GoodIn wsX4_sledgeTold wsX4_sl := goodIn_r _ [5, 6, 10, 11, 12, 13, 14, 15, 16, 17, 18] (by decide +kernel) (by decide +kernel)
set_option maxRecDepth 20000 in
theorem gX4_sledgeTold_X4_sl : GoodIn wsX4_sledgeTold (wsV RX4 57 RX4 yX4_sl wsX4_sl) := goodIn_app (goodIn_of _ (by decide +kernel)) ggX4_sledgeTold_X4_sl
set_option maxRecDepth 20000 in
theorem ggX4_sledgeTold_X4_kind : GoodIn wsX4_sledgeTold wsX4_kind := goodIn_r _ [9] (by decide +kernel) (by decide +kernel)
set_option maxRecDepth 20000 in
theorem gX4_sledgeTold_X4_kind : GoodIn wsX4_sledgeTold (va_wsS RX4 61 yX4_kind wsX4_kind) := goodIn_app (goodIn_of _ (by decide +kernel)) ggX4_sledgeTold_X4_kind
theorem dX4_sledgeTold_0 : decode cX4_sledgeTold 0 = .ok (.iload_n 2, 1) := by decide +kernel
theorem dX4_sledgeTold_1 : decode cX4_sledgeTold 1 = .ok (.iconst 4, 1) := by decide +kernel
theorem dX4_sledgeTold_2 : decode cX4_sledgeTold 2 = .ok (.if_icmp .ge 10, 3) := by decide +kernel
theorem dX4_sledgeTold_5 : decode cX4_sledgeTold 5 = .ok (.aload_n 0, 1) := by decide +kernel
theorem dX4_sledgeTold_6 : decode cX4_sledgeTold 6 = .ok (.iload_n 1, 1) := by decide +kernel
theorem dX4_sledgeTold_7 : decode cX4_sledgeTold 7 = .ok (.iload_n 2, 1) := by decide +kernel
theorem dX4_sledgeTold_8 : decode cX4_sledgeTold 8 = .ok (.invokevirtual 57, 3) := by decide +kernel
theorem dX4_sledgeTold_11 : decode cX4_sledgeTold 11 = .ok (.ireturn, 1) := by decide +kernel
theorem dX4_sledgeTold_12 : decode cX4_sledgeTold 12 = .ok (.aload_n 0, 1) := by decide +kernel
theorem dX4_sledgeTold_13 : decode cX4_sledgeTold 13 = .ok (.iload_n 1, 1) := by decide +kernel
theorem dX4_sledgeTold_14 : decode cX4_sledgeTold 14 = .ok (.iconst 1, 1) := by decide +kernel
theorem dX4_sledgeTold_15 : decode cX4_sledgeTold 15 = .ok (.invokevirtual 57, 3) := by decide +kernel
theorem dX4_sledgeTold_18 : decode cX4_sledgeTold 18 = .ok (.istore_n 3, 1) := by decide +kernel
theorem dX4_sledgeTold_19 : decode cX4_sledgeTold 19 = .ok (.iload_n 2, 1) := by decide +kernel
theorem dX4_sledgeTold_20 : decode cX4_sledgeTold 20 = .ok (.iconst 5, 1) := by decide +kernel
theorem dX4_sledgeTold_21 : decode cX4_sledgeTold 21 = .ok (.if_icmp .ne 25, 3) := by decide +kernel
theorem dX4_sledgeTold_24 : decode cX4_sledgeTold 24 = .ok (.iload_n 3, 1) := by decide +kernel
theorem dX4_sledgeTold_25 : decode cX4_sledgeTold 25 = .ok (.ifCond .ne 7, 3) := by decide +kernel
theorem dX4_sledgeTold_28 : decode cX4_sledgeTold 28 = .ok (.iconst (-1), 1) := by decide +kernel
theorem dX4_sledgeTold_29 : decode cX4_sledgeTold 29 = .ok (.goto 16, 3) := by decide +kernel
theorem dX4_sledgeTold_32 : decode cX4_sledgeTold 32 = .ok (.aload_n 0, 1) := by decide +kernel
theorem dX4_sledgeTold_33 : decode cX4_sledgeTold 33 = .ok (.iload_n 1, 1) := by decide +kernel
theorem dX4_sledgeTold_34 : decode cX4_sledgeTold 34 = .ok (.iconst 4, 1) := by decide +kernel
theorem dX4_sledgeTold_35 : decode cX4_sledgeTold 35 = .ok (.iload_n 3, 1) := by decide +kernel
theorem dX4_sledgeTold_36 : decode cX4_sledgeTold 36 = .ok (.iadd, 1) := by decide +kernel
theorem dX4_sledgeTold_37 : decode cX4_sledgeTold 37 = .ok (.iconst 1, 1) := by decide +kernel
theorem dX4_sledgeTold_38 : decode cX4_sledgeTold 38 = .ok (.isub, 1) := by decide +kernel
theorem dX4_sledgeTold_39 : decode cX4_sledgeTold 39 = .ok (.invokevirtual 57, 3) := by decide +kernel
theorem dX4_sledgeTold_42 : decode cX4_sledgeTold 42 = .ok (.invokestatic 61, 3) := by decide +kernel
theorem dX4_sledgeTold_45 : decode cX4_sledgeTold 45 = .ok (.ireturn, 1) := by decide +kernel
theorem dX4_sledgeTold_46 : decode cX4_sledgeTold 46 = .ok (.iconst 0, 1) := by decide +kernel
theorem dX4_sledgeTold_47 : decode cX4_sledgeTold 47 = .ok (.istore 4, 2) := by decide +kernel
theorem dX4_sledgeTold_49 : decode cX4_sledgeTold 49 = .ok (.iconst 0, 1) := by decide +kernel
theorem dX4_sledgeTold_50 : decode cX4_sledgeTold 50 = .ok (.istore 5, 2) := by decide +kernel
theorem dX4_sledgeTold_52 : decode cX4_sledgeTold 52 = .ok (.iload 5, 2) := by decide +kernel
theorem dX4_sledgeTold_54 : decode cX4_sledgeTold 54 = .ok (.iload_n 3, 1) := by decide +kernel
theorem dX4_sledgeTold_55 : decode cX4_sledgeTold 55 = .ok (.if_icmp .ge 23, 3) := by decide +kernel
theorem dX4_sledgeTold_58 : decode cX4_sledgeTold 58 = .ok (.iload 4, 2) := by decide +kernel
theorem dX4_sledgeTold_60 : decode cX4_sledgeTold 60 = .ok (.aload_n 0, 1) := by decide +kernel
theorem dX4_sledgeTold_61 : decode cX4_sledgeTold 61 = .ok (.iload_n 1, 1) := by decide +kernel
theorem dX4_sledgeTold_62 : decode cX4_sledgeTold 62 = .ok (.iconst 4, 1) := by decide +kernel
theorem dX4_sledgeTold_63 : decode cX4_sledgeTold 63 = .ok (.iload 5, 2) := by decide +kernel
theorem dX4_sledgeTold_65 : decode cX4_sledgeTold 65 = .ok (.iadd, 1) := by decide +kernel
theorem dX4_sledgeTold_66 : decode cX4_sledgeTold 66 = .ok (.invokevirtual 57, 3) := by decide +kernel
theorem dX4_sledgeTold_69 : decode cX4_sledgeTold 69 = .ok (.iadd, 1) := by decide +kernel
theorem dX4_sledgeTold_70 : decode cX4_sledgeTold 70 = .ok (.istore 4, 2) := by decide +kernel
theorem dX4_sledgeTold_72 : decode cX4_sledgeTold 72 = .ok (.iinc 5 1, 3) := by decide +kernel
theorem dX4_sledgeTold_75 : decode cX4_sledgeTold 75 = .ok (.goto (-23), 3) := by decide +kernel
theorem dX4_sledgeTold_78 : decode cX4_sledgeTold 78 = .ok (.iload 4, 2) := by decide +kernel
theorem dX4_sledgeTold_80 : decode cX4_sledgeTold 80 = .ok (.ireturn, 1) := by decide +kernel
set_option maxRecDepth 20000 in
theorem ggX4_told_X4_isSledge : GoodIn wsX4_told wsX4_isSledge := goodIn_r _ [6, 7, 8, 9, 5, 10, 27, 28, 29, 30, 31, 32, 33, 34, 35] (by decide +kernel) (by decide +kernel)
set_option maxRecDepth 20000 in
theorem gX4_told_X4_isSledge : GoodIn wsX4_told (wsV RX4 54 RX4 yX4_isSledge wsX4_isSledge) := goodIn_app (goodIn_of _ (by decide +kernel)) ggX4_told_X4_isSledge
set_option maxRecDepth 20000 in
theorem ggX4_told_X4_isIn : GoodIn wsX4_told wsX4_isIn := goodIn_r _ [10] (by decide +kernel) (by decide +kernel)
set_option maxRecDepth 20000 in
theorem gX4_told_X4_isIn : GoodIn wsX4_told (va_wsS RX4 35 yX4_isIn wsX4_isIn) := goodIn_app (goodIn_of _ (by decide +kernel)) ggX4_told_X4_isIn
set_option maxRecDepth 20000 in
theorem ggX4_told_X4_sledgeTold : GoodIn wsX4_told wsX4_sledgeTold := goodIn_r _ [14, 15, 16, 17, 5, 18, 19, 20, 21, 22, 27, 28, 29, 30, 31, 32, 33, 34, 35] (by decide +kernel) (by decide +kernel)
set_option maxRecDepth 20000 in
theorem gX4_told_X4_sledgeTold : GoodIn wsX4_told (wsV RX4 90 RX4 yX4_sledgeTold wsX4_sledgeTold) := goodIn_app (goodIn_of _ (by decide +kernel)) ggX4_told_X4_sledgeTold
set_option maxRecDepth 20000 in
theorem ggX4_told_X4_fail : GoodIn wsX4_told wsX4_fail := goodIn_r _ [26, 1, 27, 28, 29, 30, 31, 32, 33, 34, 35] (by decide +kernel) (by decide +kernel)
set_option maxRecDepth 20000 in
theorem gX4_told_X4_fail : GoodIn wsX4_told (wsV RX4 46 RX4 yX4_fail wsX4_fail) := goodIn_app (goodIn_of _ (by decide +kernel)) ggX4_told_X4_fail
theorem dX4_told_0 : decode cX4_told 0 = .ok (.aload_n 0, 1) := by decide +kernel
theorem dX4_told_1 : decode cX4_told 1 = .ok (.iconst 0, 1) := by decide +kernel
theorem dX4_told_2 : decode cX4_told 2 = .ok (.putfield 28, 3) := by decide +kernel
theorem dX4_told_5 : decode cX4_told 5 = .ok (.aload_n 0, 1) := by decide +kernel
theorem dX4_told_6 : decode cX4_told 6 = .ok (.iload_n 1, 1) := by decide +kernel
theorem dX4_told_7 : decode cX4_told 7 = .ok (.invokevirtual 54, 3) := by decide +kernel
theorem dX4_told_10 : decode cX4_told 10 = .ok (.ifCond .eq 21, 3) := by decide +kernel
theorem dX4_told_13 : decode cX4_told 13 = .ok (.iload_n 2, 1) := by decide +kernel
theorem dX4_told_14 : decode cX4_told 14 = .ok (.iconst 0, 1) := by decide +kernel
theorem dX4_told_15 : decode cX4_told 15 = .ok (.iconst 5, 1) := by decide +kernel
theorem dX4_told_16 : decode cX4_told 16 = .ok (.invokestatic 35, 3) := by decide +kernel
theorem dX4_told_19 : decode cX4_told 19 = .ok (.ifCond .eq 12, 3) := by decide +kernel
theorem dX4_told_22 : decode cX4_told 22 = .ok (.aload_n 0, 1) := by decide +kernel
theorem dX4_told_23 : decode cX4_told 23 = .ok (.iload_n 1, 1) := by decide +kernel
theorem dX4_told_24 : decode cX4_told 24 = .ok (.iload_n 2, 1) := by decide +kernel
theorem dX4_told_25 : decode cX4_told 25 = .ok (.invokevirtual 90, 3) := by decide +kernel
theorem dX4_told_28 : decode cX4_told 28 = .ok (.goto 8, 3) := by decide +kernel
theorem dX4_told_31 : decode cX4_told 31 = .ok (.aload_n 0, 1) := by decide +kernel
theorem dX4_told_32 : decode cX4_told 32 = .ok (.iconst 1, 1) := by decide +kernel
theorem dX4_told_33 : decode cX4_told 33 = .ok (.invokevirtual 46, 3) := by decide +kernel
theorem dX4_told_36 : decode cX4_told 36 = .ok (.ireturn, 1) := by decide +kernel
set_option maxRecDepth 20000 in
theorem ggX4_boatTold_X4_bo : GoodIn wsX4_boatTold wsX4_bo := goodIn_r _ [5, 6, 25, 26, 27, 28, 29, 30, 31, 32, 33] (by decide +kernel) (by decide +kernel)
set_option maxRecDepth 20000 in
theorem gX4_boatTold_X4_bo : GoodIn wsX4_boatTold (wsV RX4 64 RX4 yX4_bo wsX4_bo) := goodIn_app (goodIn_of _ (by decide +kernel)) ggX4_boatTold_X4_bo
set_option maxRecDepth 20000 in
theorem ggX4_boatTold_X4_depth : GoodIn wsX4_boatTold wsX4_depth := goodIn_r _ [9, 10, 11, 12, 13] (by decide +kernel) (by decide +kernel)
set_option maxRecDepth 20000 in
theorem gX4_boatTold_X4_depth : GoodIn wsX4_boatTold (va_wsS RX4 72 yX4_depth wsX4_depth) := goodIn_app (goodIn_of _ (by decide +kernel)) ggX4_boatTold_X4_depth
set_option maxRecDepth 20000 in
theorem ggX4_boatTold_X4_canSail : GoodIn wsX4_boatTold wsX4_canSail := goodIn_r _ [17, 1, 2, 3, 4, 5, 6, 7, 8, 9, 10, 11, 12, 13, 18, 19, 20, 25, 26, 27, 28, 29, 30, 31, 32, 33] (by decide +kernel) (by decide +kernel)
set_option maxRecDepth 20000 in
theorem gX4_boatTold_X4_canSail : GoodIn wsX4_boatTold (wsV RX4 84 RX4 yX4_canSail wsX4_canSail) := goodIn_app (goodIn_of _ (by decide +kernel)) ggX4_boatTold_X4_canSail
set_option maxRecDepth 20000 in
theorem ggX4_boatTold_X4_all : GoodIn wsX4_boatTold wsX4_all := goodIn_r _ [24, 1, 2, 3, 4, 5, 6, 25, 26, 27, 28, 29, 30, 31, 32, 33] (by decide +kernel) (by decide +kernel)
set_option maxRecDepth 20000 in
theorem gX4_boatTold_X4_all : GoodIn wsX4_boatTold (wsV RX4 78 RX4 yX4_all wsX4_all) := goodIn_app (goodIn_of _ (by decide +kernel)) ggX4_boatTold_X4_all
theorem dX4_boatTold_0 : decode cX4_boatTold 0 = .ok (.iload_n 2, 1) := by decide +kernel
theorem dX4_boatTold_1 : decode cX4_boatTold 1 = .ok (.tableswitch 104 0 5 #[39, 46, 53, 60, 74, 90], 39) := by decide +kernel
theorem dX4_boatTold_40 : decode cX4_boatTold 40 = .ok (.aload_n 0, 1) := by decide +kernel
theorem dX4_boatTold_41 : decode cX4_boatTold 41 = .ok (.iload_n 1, 1) := by decide +kernel
theorem dX4_boatTold_42 : decode cX4_boatTold 42 = .ok (.iconst 0, 1) := by decide +kernel
theorem dX4_boatTold_43 : decode cX4_boatTold 43 = .ok (.invokevirtual 64, 3) := by decide +kernel
theorem dX4_boatTold_46 : decode cX4_boatTold 46 = .ok (.ireturn, 1) := by decide +kernel
theorem dX4_boatTold_47 : decode cX4_boatTold 47 = .ok (.aload_n 0, 1) := by decide +kernel
theorem dX4_boatTold_48 : decode cX4_boatTold 48 = .ok (.iload_n 1, 1) := by decide +kernel
theorem dX4_boatTold_49 : decode cX4_boatTold 49 = .ok (.iconst 1, 1) := by decide +kernel
theorem dX4_boatTold_50 : decode cX4_boatTold 50 = .ok (.invokevirtual 64, 3) := by decide +kernel
theorem dX4_boatTold_53 : decode cX4_boatTold 53 = .ok (.ireturn, 1) := by decide +kernel
theorem dX4_boatTold_54 : decode cX4_boatTold 54 = .ok (.aload_n 0, 1) := by decide +kernel
theorem dX4_boatTold_55 : decode cX4_boatTold 55 = .ok (.iload_n 1, 1) := by decide +kernel
theorem dX4_boatTold_56 : decode cX4_boatTold 56 = .ok (.iconst 2, 1) := by decide +kernel
theorem dX4_boatTold_57 : decode cX4_boatTold 57 = .ok (.invokevirtual 64, 3) := by decide +kernel
theorem dX4_boatTold_60 : decode cX4_boatTold 60 = .ok (.ireturn, 1) := by decide +kernel
theorem dX4_boatTold_61 : decode cX4_boatTold 61 = .ok (.aload_n 0, 1) := by decide +kernel
theorem dX4_boatTold_62 : decode cX4_boatTold 62 = .ok (.iload_n 1, 1) := by decide +kernel
theorem dX4_boatTold_63 : decode cX4_boatTold 63 = .ok (.iconst 1, 1) := by decide +kernel
theorem dX4_boatTold_64 : decode cX4_boatTold 64 = .ok (.invokevirtual 64, 3) := by decide +kernel
theorem dX4_boatTold_67 : decode cX4_boatTold 67 = .ok (.aload_n 0, 1) := by decide +kernel
theorem dX4_boatTold_68 : decode cX4_boatTold 68 = .ok (.iload_n 1, 1) := by decide +kernel
theorem dX4_boatTold_69 : decode cX4_boatTold 69 = .ok (.iconst 2, 1) := by decide +kernel
theorem dX4_boatTold_70 : decode cX4_boatTold 70 = .ok (.invokevirtual 64, 3) := by decide +kernel
theorem dX4_boatTold_73 : decode cX4_boatTold 73 = .ok (.isub, 1) := by decide +kernel
theorem dX4_boatTold_74 : decode cX4_boatTold 74 = .ok (.ireturn, 1) := by decide +kernel
theorem dX4_boatTold_75 : decode cX4_boatTold 75 = .ok (.aload_n 0, 1) := by decide +kernel
theorem dX4_boatTold_76 : decode cX4_boatTold 76 = .ok (.iload_n 1, 1) := by decide +kernel
theorem dX4_boatTold_77 : decode cX4_boatTold 77 = .ok (.iconst 1, 1) := by decide +kernel
theorem dX4_boatTold_78 : decode cX4_boatTold 78 = .ok (.invokevirtual 64, 3) := by decide +kernel
theorem dX4_boatTold_81 : decode cX4_boatTold 81 = .ok (.aload_n 0, 1) := by decide +kernel
theorem dX4_boatTold_82 : decode cX4_boatTold 82 = .ok (.iload_n 1, 1) := by decide +kernel
theorem dX4_boatTold_83 : decode cX4_boatTold 83 = .ok (.iconst 2, 1) := by decide +kernel
theorem dX4_boatTold_84 : decode cX4_boatTold 84 = .ok (.invokevirtual 64, 3) := by decide +kernel
theorem dX4_boatTold_87 : decode cX4_boatTold 87 = .ok (.invokestatic 72, 3) := by decide +kernel
theorem dX4_boatTold_90 : decode cX4_boatTold 90 = .ok (.ireturn, 1) := by decide +kernel
theorem dX4_boatTold_91 : decode cX4_boatTold 91 = .ok (.aload_n 0, 1) := by decide +kernel
theorem dX4_boatTold_92 : decode cX4_boatTold 92 = .ok (.iload_n 1, 1) := by decide +kernel
theorem dX4_boatTold_93 : decode cX4_boatTold 93 = .ok (.invokevirtual 84, 3) := by decide +kernel
theorem dX4_boatTold_96 : decode cX4_boatTold 96 = .ok (.ifCond .eq 7, 3) := by decide +kernel
theorem dX4_boatTold_99 : decode cX4_boatTold 99 = .ok (.iconst 1, 1) := by decide +kernel
theorem dX4_boatTold_100 : decode cX4_boatTold 100 = .ok (.goto 4, 3) := by decide +kernel
theorem dX4_boatTold_103 : decode cX4_boatTold 103 = .ok (.iconst 0, 1) := by decide +kernel
theorem dX4_boatTold_104 : decode cX4_boatTold 104 = .ok (.ireturn, 1) := by decide +kernel
theorem dX4_boatTold_105 : decode cX4_boatTold 105 = .ok (.aload_n 0, 1) := by decide +kernel
theorem dX4_boatTold_106 : decode cX4_boatTold 106 = .ok (.iload_n 1, 1) := by decide +kernel
theorem dX4_boatTold_107 : decode cX4_boatTold 107 = .ok (.iconst 0, 1) := by decide +kernel
theorem dX4_boatTold_108 : decode cX4_boatTold 108 = .ok (.invokevirtual 64, 3) := by decide +kernel
theorem dX4_boatTold_111 : decode cX4_boatTold 111 = .ok (.aload_n 0, 1) := by decide +kernel
theorem dX4_boatTold_112 : decode cX4_boatTold 112 = .ok (.iload_n 1, 1) := by decide +kernel
theorem dX4_boatTold_113 : decode cX4_boatTold 113 = .ok (.invokevirtual 78, 3) := by decide +kernel
theorem dX4_boatTold_116 : decode cX4_boatTold 116 = .ok (.isub, 1) := by decide +kernel
theorem dX4_boatTold_117 : decode cX4_boatTold 117 = .ok (.ireturn, 1) := by decide +kernel
set_option maxRecDepth 20000 in
theorem ggX4_boat_X4_isBoat : GoodIn wsX4_boat wsX4_isBoat := goodIn_r _ [6, 7, 8, 9, 5, 10, 39, 40, 41, 42, 43, 44, 45, 46, 47] (by decide +kernel) (by decide +kernel)
set_option maxRecDepth 20000 in
theorem gX4_boat_X4_isBoat : GoodIn wsX4_boat (wsV RX4 75 RX4 yX4_isBoat wsX4_isBoat) := goodIn_app (goodIn_of _ (by decide +kernel)) ggX4_boat_X4_isBoat
set_option maxRecDepth 20000 in
theorem ggX4_boat_X4_isIn : GoodIn wsX4_boat wsX4_isIn := goodIn_r _ [10] (by decide +kernel) (by decide +kernel)
set_option maxRecDepth 20000 in
theorem gX4_boat_X4_isIn : GoodIn wsX4_boat (va_wsS RX4 35 yX4_isIn wsX4_isIn) := goodIn_app (goodIn_of _ (by decide +kernel)) ggX4_boat_X4_isIn
set_option maxRecDepth 20000 in
theorem ggX4_boat_X4_boatTold : GoodIn wsX4_boat wsX4_boatTold := goodIn_r _ [14, 15, 16, 17, 5, 18, 19, 20, 21, 22, 23, 24, 25, 26, 27, 28, 29, 30, 8, 9, 10, 31, 32, 33, 34, 39, 40, 41, 42, 43, 44, 45, 46, 47] (by decide +kernel) (by decide +kernel)
set_option maxRecDepth 20000 in
theorem gX4_boat_X4_boatTold : GoodIn wsX4_boat (wsV RX4 93 RX4 yX4_boatTold wsX4_boatTold) := goodIn_app (goodIn_of _ (by decide +kernel)) ggX4_boat_X4_boatTold
set_option maxRecDepth 20000 in
theorem ggX4_boat_X4_fail : GoodIn wsX4_boat wsX4_fail := goodIn_r _ [38, 1, 39, 40, 41, 42, 43, 44, 45, 46, 47] (by decide +kernel) (by decide +kernel)
set_option maxRecDepth 20000 in
theorem gX4_boat_X4_fail : GoodIn wsX4_boat (wsV RX4 46 RX4 yX4_fail wsX4_fail) := goodIn_app (goodIn_of _ (by decide +kernel)) ggX4_boat_X4_fail
theorem dX4_boat_0 : decode cX4_boat 0 = .ok (.aload_n 0, 1) := by decide +kernel
theorem dX4_boat_1 : decode cX4_boat 1 = .ok (.iconst 0, 1) := by decide +kernel
theorem dX4_boat_2 : decode cX4_boat 2 = .ok (.putfield 28, 3) := by decide +kernel
theorem dX4_boat_5 : decode cX4_boat 5 = .ok (.aload_n 0, 1) := by decide +kernel
theorem dX4_boat_6 : decode cX4_boat 6 = .ok (.iload_n 1, 1) := by decide +kernel
theorem dX4_boat_7 : decode cX4_boat 7 = .ok (.invokevirtual 75, 3) := by decide +kernel
theorem dX4_boat_10 : decode cX4_boat 10 = .ok (.ifCond .eq 22, 3) := by decide +kernel
theorem dX4_boat_13 : decode cX4_boat 13 = .ok (.iload_n 2, 1) := by decide +kernel
theorem dX4_boat_14 : decode cX4_boat 14 = .ok (.iconst 0, 1) := by decide +kernel
theorem dX4_boat_15 : decode cX4_boat 15 = .ok (.bipush 6, 2) := by decide +kernel
theorem dX4_boat_17 : decode cX4_boat 17 = .ok (.invokestatic 35, 3) := by decide +kernel
theorem dX4_boat_20 : decode cX4_boat 20 = .ok (.ifCond .eq 12, 3) := by decide +kernel
theorem dX4_boat_23 : decode cX4_boat 23 = .ok (.aload_n 0, 1) := by decide +kernel
theorem dX4_boat_24 : decode cX4_boat 24 = .ok (.iload_n 1, 1) := by decide +kernel
theorem dX4_boat_25 : decode cX4_boat 25 = .ok (.iload_n 2, 1) := by decide +kernel
theorem dX4_boat_26 : decode cX4_boat 26 = .ok (.invokevirtual 93, 3) := by decide +kernel
theorem dX4_boat_29 : decode cX4_boat 29 = .ok (.goto 8, 3) := by decide +kernel
theorem dX4_boat_32 : decode cX4_boat 32 = .ok (.aload_n 0, 1) := by decide +kernel
theorem dX4_boat_33 : decode cX4_boat 33 = .ok (.iconst 1, 1) := by decide +kernel
theorem dX4_boat_34 : decode cX4_boat 34 = .ok (.invokevirtual 46, 3) := by decide +kernel
theorem dX4_boat_37 : decode cX4_boat 37 = .ok (.ireturn, 1) := by decide +kernel
set_option maxRecDepth 20000 in
theorem ggX4_beach_X4_isIn : GoodIn wsX4_beach wsX4_isIn := goodIn_r _ [6] (by decide +kernel) (by decide +kernel)
set_option maxRecDepth 20000 in
theorem gX4_beach_X4_isIn : GoodIn wsX4_beach (va_wsS RX4 35 yX4_isIn wsX4_isIn) := goodIn_app (goodIn_of _ (by decide +kernel)) ggX4_beach_X4_isIn
set_option maxRecDepth 20000 in
theorem ggX4_beach_X4_fail : GoodIn wsX4_beach wsX4_fail := goodIn_r _ [10, 1, 11, 12, 13, 14, 15, 16, 17, 18, 19] (by decide +kernel) (by decide +kernel)
set_option maxRecDepth 20000 in
theorem gX4_beach_X4_fail : GoodIn wsX4_beach (wsV RX4 46 RX4 yX4_fail wsX4_fail) := goodIn_app (goodIn_of _ (by decide +kernel)) ggX4_beach_X4_fail
theorem dX4_beach_0 : decode cX4_beach 0 = .ok (.aload_n 0, 1) := by decide +kernel
theorem dX4_beach_1 : decode cX4_beach 1 = .ok (.iconst 0, 1) := by decide +kernel
theorem dX4_beach_2 : decode cX4_beach 2 = .ok (.putfield 28, 3) := by decide +kernel
theorem dX4_beach_5 : decode cX4_beach 5 = .ok (.iload_n 1, 1) := by decide +kernel
theorem dX4_beach_6 : decode cX4_beach 6 = .ok (.iconst 0, 1) := by decide +kernel
theorem dX4_beach_7 : decode cX4_beach 7 = .ok (.iconst 2, 1) := by decide +kernel
theorem dX4_beach_8 : decode cX4_beach 8 = .ok (.invokestatic 35, 3) := by decide +kernel
theorem dX4_beach_11 : decode cX4_beach 11 = .ok (.ifCond .eq 14, 3) := by decide +kernel
theorem dX4_beach_14 : decode cX4_beach 14 = .ok (.aload_n 0, 1) := by decide +kernel
theorem dX4_beach_15 : decode cX4_beach 15 = .ok (.getfield 25, 3) := by decide +kernel
theorem dX4_beach_18 : decode cX4_beach 18 = .ok (.iconst 3, 1) := by decide +kernel
theorem dX4_beach_19 : decode cX4_beach 19 = .ok (.iload_n 1, 1) := by decide +kernel
theorem dX4_beach_20 : decode cX4_beach 20 = .ok (.iadd, 1) := by decide +kernel
theorem dX4_beach_21 : decode cX4_beach 21 = .ok (.iaload, 1) := by decide +kernel
theorem dX4_beach_22 : decode cX4_beach 22 = .ok (.goto 8, 3) := by decide +kernel
theorem dX4_beach_25 : decode cX4_beach 25 = .ok (.aload_n 0, 1) := by decide +kernel
theorem dX4_beach_26 : decode cX4_beach 26 = .ok (.iconst 1, 1) := by decide +kernel
theorem dX4_beach_27 : decode cX4_beach 27 = .ok (.invokevirtual 46, 3) := by decide +kernel
theorem dX4_beach_30 : decode cX4_beach 30 = .ok (.ireturn, 1) := by decide +kernel
theorem dX4_gust_0 : decode cX4_gust 0 = .ok (.aload_n 0, 1) := by decide +kernel
theorem dX4_gust_1 : decode cX4_gust 1 = .ok (.getfield 16, 3) := by decide +kernel
theorem dX4_gust_4 : decode cX4_gust 4 = .ok (.aload_n 0, 1) := by decide +kernel
theorem dX4_gust_5 : decode cX4_gust 5 = .ok (.getfield 25, 3) := by decide +kernel
theorem dX4_gust_8 : decode cX4_gust 8 = .ok (.iconst 0, 1) := by decide +kernel
theorem dX4_gust_9 : decode cX4_gust 9 = .ok (.iaload, 1) := by decide +kernel
theorem dX4_gust_10 : decode cX4_gust 10 = .ok (.bipush 8, 2) := by decide +kernel
theorem dX4_gust_12 : decode cX4_gust 12 = .ok (.irem, 1) := by decide +kernel
theorem dX4_gust_13 : decode cX4_gust 13 = .ok (.iaload, 1) := by decide +kernel
theorem dX4_gust_14 : decode cX4_gust 14 = .ok (.ireturn, 1) := by decide +kernel
set_option maxRecDepth 20000 in
theorem ggX4_aboard_X4_sl : GoodIn wsX4_aboard wsX4_sl := goodIn_r _ [6, 7, 8, 9, 10, 11, 12, 13, 14, 15, 16] (by decide +kernel) (by decide +kernel)
set_option maxRecDepth 20000 in
theorem gX4_aboard_X4_sl : GoodIn wsX4_aboard (wsV RX4 57 RX4 yX4_sl wsX4_sl) := goodIn_app (goodIn_of _ (by decide +kernel)) ggX4_aboard_X4_sl
theorem dX4_aboard_0 : decode cX4_aboard 0 = .ok (.iconst 0, 1) := by decide +kernel
theorem dX4_aboard_1 : decode cX4_aboard 1 = .ok (.istore_n 1, 1) := by decide +kernel
theorem dX4_aboard_2 : decode cX4_aboard 2 = .ok (.iconst 0, 1) := by decide +kernel
theorem dX4_aboard_3 : decode cX4_aboard 3 = .ok (.istore_n 2, 1) := by decide +kernel
theorem dX4_aboard_4 : decode cX4_aboard 4 = .ok (.iload_n 2, 1) := by decide +kernel
theorem dX4_aboard_5 : decode cX4_aboard 5 = .ok (.aload_n 0, 1) := by decide +kernel
theorem dX4_aboard_6 : decode cX4_aboard 6 = .ok (.getfield 32, 3) := by decide +kernel
theorem dX4_aboard_9 : decode cX4_aboard 9 = .ok (.if_icmp .ge 18, 3) := by decide +kernel
theorem dX4_aboard_12 : decode cX4_aboard 12 = .ok (.iload_n 1, 1) := by decide +kernel
theorem dX4_aboard_13 : decode cX4_aboard 13 = .ok (.aload_n 0, 1) := by decide +kernel
theorem dX4_aboard_14 : decode cX4_aboard 14 = .ok (.iload_n 2, 1) := by decide +kernel
theorem dX4_aboard_15 : decode cX4_aboard 15 = .ok (.iconst 1, 1) := by decide +kernel
theorem dX4_aboard_16 : decode cX4_aboard 16 = .ok (.invokevirtual 57, 3) := by decide +kernel
theorem dX4_aboard_19 : decode cX4_aboard 19 = .ok (.iadd, 1) := by decide +kernel
theorem dX4_aboard_20 : decode cX4_aboard 20 = .ok (.istore_n 1, 1) := by decide +kernel
theorem dX4_aboard_21 : decode cX4_aboard 21 = .ok (.iinc 2 1, 3) := by decide +kernel
theorem dX4_aboard_24 : decode cX4_aboard 24 = .ok (.goto (-20), 3) := by decide +kernel
theorem dX4_aboard_27 : decode cX4_aboard 27 = .ok (.iload_n 1, 1) := by decide +kernel
theorem dX4_aboard_28 : decode cX4_aboard 28 = .ok (.ireturn, 1) := by decide +kernel
theorem dX4_ashore_0 : decode cX4_ashore 0 = .ok (.aload_n 0, 1) := by decide +kernel
theorem dX4_ashore_1 : decode cX4_ashore 1 = .ok (.getfield 25, 3) := by decide +kernel
theorem dX4_ashore_4 : decode cX4_ashore 4 = .ok (.iconst 3, 1) := by decide +kernel
theorem dX4_ashore_5 : decode cX4_ashore 5 = .ok (.iaload, 1) := by decide +kernel
theorem dX4_ashore_6 : decode cX4_ashore 6 = .ok (.aload_n 0, 1) := by decide +kernel
theorem dX4_ashore_7 : decode cX4_ashore 7 = .ok (.getfield 25, 3) := by decide +kernel
theorem dX4_ashore_10 : decode cX4_ashore 10 = .ok (.iconst 4, 1) := by decide +kernel
theorem dX4_ashore_11 : decode cX4_ashore 11 = .ok (.iaload, 1) := by decide +kernel
theorem dX4_ashore_12 : decode cX4_ashore 12 = .ok (.iadd, 1) := by decide +kernel
theorem dX4_ashore_13 : decode cX4_ashore 13 = .ok (.aload_n 0, 1) := by decide +kernel
theorem dX4_ashore_14 : decode cX4_ashore 14 = .ok (.getfield 25, 3) := by decide +kernel
theorem dX4_ashore_17 : decode cX4_ashore 17 = .ok (.iconst 5, 1) := by decide +kernel
theorem dX4_ashore_18 : decode cX4_ashore 18 = .ok (.iaload, 1) := by decide +kernel
theorem dX4_ashore_19 : decode cX4_ashore 19 = .ok (.iadd, 1) := by decide +kernel
theorem dX4_ashore_20 : decode cX4_ashore 20 = .ok (.ireturn, 1) := by decide +kernel
set_option maxRecDepth 20000 in
theorem ggX4_counted_X4_gust : GoodIn wsX4_counted wsX4_gust := goodIn_r _ [9, 10, 1, 24, 25, 26, 27, 28, 29, 30, 31, 32] (by decide +kernel) (by decide +kernel)
set_option maxRecDepth 20000 in
theorem gX4_counted_X4_gust : GoodIn wsX4_counted (wsV RX4 96 RX4 yX4_gust wsX4_gust) := goodIn_app (goodIn_of _ (by decide +kernel)) ggX4_counted_X4_gust
set_option maxRecDepth 20000 in
theorem ggX4_counted_X4_aboard : GoodIn wsX4_counted wsX4_aboard := goodIn_r _ [14, 2, 15, 16, 17, 8, 18, 19, 24, 25, 26, 27, 28, 29, 30, 31, 32] (by decide +kernel) (by decide +kernel)
set_option maxRecDepth 20000 in
theorem gX4_counted_X4_aboard : GoodIn wsX4_counted (wsV RX4 100 RX4 yX4_aboard wsX4_aboard) := goodIn_app (goodIn_of _ (by decide +kernel)) ggX4_counted_X4_aboard
set_option maxRecDepth 20000 in
theorem ggX4_counted_X4_ashore : GoodIn wsX4_counted wsX4_ashore := goodIn_r _ [23, 1, 24, 25, 26, 27, 28, 29, 30, 31, 32] (by decide +kernel) (by decide +kernel)
set_option maxRecDepth 20000 in
theorem gX4_counted_X4_ashore : GoodIn wsX4_counted (wsV RX4 103 RX4 yX4_ashore wsX4_ashore) := goodIn_app (goodIn_of _ (by decide +kernel)) ggX4_counted_X4_ashore
theorem dX4_counted_0 : decode cX4_counted 0 = .ok (.iconst 0, 1) := by decide +kernel
theorem dX4_counted_1 : decode cX4_counted 1 = .ok (.istore_n 2, 1) := by decide +kernel
theorem dX4_counted_2 : decode cX4_counted 2 = .ok (.iload_n 1, 1) := by decide +kernel
theorem dX4_counted_3 : decode cX4_counted 3 = .ok (.tableswitch 91 0 7 #[45, 52, 57, 62, 67, 74, 79, 84], 45) := by decide +kernel
theorem dX4_counted_48 : decode cX4_counted 48 = .ok (.aload_n 0, 1) := by decide +kernel
theorem dX4_counted_49 : decode cX4_counted 49 = .ok (.getfield 25, 3) := by decide +kernel
theorem dX4_counted_52 : decode cX4_counted 52 = .ok (.iconst 0, 1) := by decide +kernel
theorem dX4_counted_53 : decode cX4_counted 53 = .ok (.iaload, 1) := by decide +kernel
theorem dX4_counted_54 : decode cX4_counted 54 = .ok (.ireturn, 1) := by decide +kernel
theorem dX4_counted_55 : decode cX4_counted 55 = .ok (.aload_n 0, 1) := by decide +kernel
theorem dX4_counted_56 : decode cX4_counted 56 = .ok (.invokevirtual 96, 3) := by decide +kernel
theorem dX4_counted_59 : decode cX4_counted 59 = .ok (.ireturn, 1) := by decide +kernel
theorem dX4_counted_60 : decode cX4_counted 60 = .ok (.aload_n 0, 1) := by decide +kernel
theorem dX4_counted_61 : decode cX4_counted 61 = .ok (.getfield 32, 3) := by decide +kernel
theorem dX4_counted_64 : decode cX4_counted 64 = .ok (.ireturn, 1) := by decide +kernel
theorem dX4_counted_65 : decode cX4_counted 65 = .ok (.aload_n 0, 1) := by decide +kernel
theorem dX4_counted_66 : decode cX4_counted 66 = .ok (.getfield 39, 3) := by decide +kernel
theorem dX4_counted_69 : decode cX4_counted 69 = .ok (.ireturn, 1) := by decide +kernel
theorem dX4_counted_70 : decode cX4_counted 70 = .ok (.aload_n 0, 1) := by decide +kernel
theorem dX4_counted_71 : decode cX4_counted 71 = .ok (.getfield 25, 3) := by decide +kernel
theorem dX4_counted_74 : decode cX4_counted 74 = .ok (.iconst 1, 1) := by decide +kernel
theorem dX4_counted_75 : decode cX4_counted 75 = .ok (.iaload, 1) := by decide +kernel
theorem dX4_counted_76 : decode cX4_counted 76 = .ok (.ireturn, 1) := by decide +kernel
theorem dX4_counted_77 : decode cX4_counted 77 = .ok (.aload_n 0, 1) := by decide +kernel
theorem dX4_counted_78 : decode cX4_counted 78 = .ok (.invokevirtual 100, 3) := by decide +kernel
theorem dX4_counted_81 : decode cX4_counted 81 = .ok (.ireturn, 1) := by decide +kernel
theorem dX4_counted_82 : decode cX4_counted 82 = .ok (.aload_n 0, 1) := by decide +kernel
theorem dX4_counted_83 : decode cX4_counted 83 = .ok (.invokevirtual 103, 3) := by decide +kernel
theorem dX4_counted_86 : decode cX4_counted 86 = .ok (.ireturn, 1) := by decide +kernel
theorem dX4_counted_87 : decode cX4_counted 87 = .ok (.aload_n 0, 1) := by decide +kernel
theorem dX4_counted_88 : decode cX4_counted 88 = .ok (.getfield 25, 3) := by decide +kernel
theorem dX4_counted_91 : decode cX4_counted 91 = .ok (.iconst 2, 1) := by decide +kernel
theorem dX4_counted_92 : decode cX4_counted 92 = .ok (.iaload, 1) := by decide +kernel
theorem dX4_counted_93 : decode cX4_counted 93 = .ok (.ireturn, 1) := by decide +kernel
theorem dX4_counted_94 : decode cX4_counted 94 = .ok (.aload_n 0, 1) := by decide +kernel
theorem dX4_counted_95 : decode cX4_counted 95 = .ok (.getfield 9, 3) := by decide +kernel
theorem dX4_counted_98 : decode cX4_counted 98 = .ok (.astore_n 3, 1) := by decide +kernel
theorem dX4_counted_99 : decode cX4_counted 99 = .ok (.aload_n 3, 1) := by decide +kernel
theorem dX4_counted_100 : decode cX4_counted 100 = .ok (.arraylength, 1) := by decide +kernel
theorem dX4_counted_101 : decode cX4_counted 101 = .ok (.istore 4, 2) := by decide +kernel
theorem dX4_counted_103 : decode cX4_counted 103 = .ok (.iconst 0, 1) := by decide +kernel
theorem dX4_counted_104 : decode cX4_counted 104 = .ok (.istore 5, 2) := by decide +kernel
theorem dX4_counted_106 : decode cX4_counted 106 = .ok (.iload 5, 2) := by decide +kernel
theorem dX4_counted_108 : decode cX4_counted 108 = .ok (.iload 4, 2) := by decide +kernel
theorem dX4_counted_110 : decode cX4_counted 110 = .ok (.if_icmp .ge 20, 3) := by decide +kernel
theorem dX4_counted_113 : decode cX4_counted 113 = .ok (.aload_n 3, 1) := by decide +kernel
theorem dX4_counted_114 : decode cX4_counted 114 = .ok (.iload 5, 2) := by decide +kernel
theorem dX4_counted_116 : decode cX4_counted 116 = .ok (.iaload, 1) := by decide +kernel
theorem dX4_counted_117 : decode cX4_counted 117 = .ok (.istore 6, 2) := by decide +kernel
theorem dX4_counted_119 : decode cX4_counted 119 = .ok (.iload_n 2, 1) := by decide +kernel
theorem dX4_counted_120 : decode cX4_counted 120 = .ok (.iload 6, 2) := by decide +kernel
theorem dX4_counted_122 : decode cX4_counted 122 = .ok (.iadd, 1) := by decide +kernel
theorem dX4_counted_123 : decode cX4_counted 123 = .ok (.istore_n 2, 1) := by decide +kernel
theorem dX4_counted_124 : decode cX4_counted 124 = .ok (.iinc 5 1, 3) := by decide +kernel
theorem dX4_counted_127 : decode cX4_counted 127 = .ok (.goto (-21), 3) := by decide +kernel
theorem dX4_counted_130 : decode cX4_counted 130 = .ok (.iload_n 2, 1) := by decide +kernel
theorem dX4_counted_131 : decode cX4_counted 131 = .ok (.ireturn, 1) := by decide +kernel
set_option maxRecDepth 20000 in
theorem ggX4_count_X4_isIn : GoodIn wsX4_count wsX4_isIn := goodIn_r _ [5] (by decide +kernel) (by decide +kernel)
set_option maxRecDepth 20000 in
theorem gX4_count_X4_isIn : GoodIn wsX4_count (va_wsS RX4 35 yX4_isIn wsX4_isIn) := goodIn_app (goodIn_of _ (by decide +kernel)) ggX4_count_X4_isIn
set_option maxRecDepth 20000 in
theorem ggX4_count_X4_counted : GoodIn wsX4_count wsX4_counted := goodIn_r _ [9, 10, 11, 12, 13, 14, 15, 16, 4, 17, 18, 19, 20, 21, 22, 23, 24, 25, 26, 27, 28, 29, 30, 31, 36, 37, 38, 39, 40, 41, 42, 43, 44] (by decide +kernel) (by decide +kernel)
set_option maxRecDepth 20000 in
theorem gX4_count_X4_counted : GoodIn wsX4_count (wsV RX4 106 RX4 yX4_counted wsX4_counted) := goodIn_app (goodIn_of _ (by decide +kernel)) ggX4_count_X4_counted
set_option maxRecDepth 20000 in
theorem ggX4_count_X4_fail : GoodIn wsX4_count wsX4_fail := goodIn_r _ [35, 1, 36, 37, 38, 39, 40, 41, 42, 43, 44] (by decide +kernel) (by decide +kernel)
set_option maxRecDepth 20000 in
theorem gX4_count_X4_fail : GoodIn wsX4_count (wsV RX4 46 RX4 yX4_fail wsX4_fail) := goodIn_app (goodIn_of _ (by decide +kernel)) ggX4_count_X4_fail
theorem dX4_count_0 : decode cX4_count 0 = .ok (.aload_n 0, 1) := by decide +kernel
theorem dX4_count_1 : decode cX4_count 1 = .ok (.iconst 0, 1) := by decide +kernel
theorem dX4_count_2 : decode cX4_count 2 = .ok (.putfield 28, 3) := by decide +kernel
theorem dX4_count_5 : decode cX4_count 5 = .ok (.iload_n 1, 1) := by decide +kernel
theorem dX4_count_6 : decode cX4_count 6 = .ok (.iconst 0, 1) := by decide +kernel
theorem dX4_count_7 : decode cX4_count 7 = .ok (.bipush 8, 2) := by decide +kernel
theorem dX4_count_9 : decode cX4_count 9 = .ok (.invokestatic 35, 3) := by decide +kernel
theorem dX4_count_12 : decode cX4_count 12 = .ok (.ifCond .eq 11, 3) := by decide +kernel
theorem dX4_count_15 : decode cX4_count 15 = .ok (.aload_n 0, 1) := by decide +kernel
theorem dX4_count_16 : decode cX4_count 16 = .ok (.iload_n 1, 1) := by decide +kernel
theorem dX4_count_17 : decode cX4_count 17 = .ok (.invokevirtual 106, 3) := by decide +kernel
theorem dX4_count_20 : decode cX4_count 20 = .ok (.goto 8, 3) := by decide +kernel
theorem dX4_count_23 : decode cX4_count 23 = .ok (.aload_n 0, 1) := by decide +kernel
theorem dX4_count_24 : decode cX4_count 24 = .ok (.iconst 1, 1) := by decide +kernel
theorem dX4_count_25 : decode cX4_count 25 = .ok (.invokevirtual 46, 3) := by decide +kernel
theorem dX4_count_28 : decode cX4_count 28 = .ok (.ireturn, 1) := by decide +kernel
set_option maxRecDepth 20000 in
theorem ggX4_slide_X4_sl : GoodIn wsX4_slide wsX4_sl := goodIn_r _ [10, 11, 21, 22, 23, 24, 25, 26, 27, 28, 29] (by decide +kernel) (by decide +kernel)
set_option maxRecDepth 20000 in
theorem gX4_slide_X4_sl : GoodIn wsX4_slide (wsV RX4 57 RX4 yX4_sl wsX4_sl) := goodIn_app (goodIn_of _ (by decide +kernel)) ggX4_slide_X4_sl
set_option maxRecDepth 20000 in
theorem ggX4_slide_X4_gust : GoodIn wsX4_slide wsX4_gust := goodIn_r _ [15, 16, 1, 21, 22, 23, 24, 25, 26, 27, 28, 29] (by decide +kernel) (by decide +kernel)
set_option maxRecDepth 20000 in
theorem gX4_slide_X4_gust : GoodIn wsX4_slide (wsV RX4 96 RX4 yX4_gust wsX4_gust) := goodIn_app (goodIn_of _ (by decide +kernel)) ggX4_slide_X4_gust
set_option maxRecDepth 20000 in
theorem ggX4_slide_X4_put : GoodIn wsX4_slide wsX4_put := goodIn_r _ [20, 11, 21, 22, 23, 24, 25, 26, 27, 28, 29] (by decide +kernel) (by decide +kernel)
set_option maxRecDepth 20000 in
theorem gX4_slide_X4_put : GoodIn wsX4_slide (wsV RX4 50 RX4 yX4_put wsX4_put) := goodIn_app (goodIn_of _ (by decide +kernel)) ggX4_slide_X4_put
theorem dX4_slide_0 : decode cX4_slide 0 = .ok (.aload_n 0, 1) := by decide +kernel
theorem dX4_slide_1 : decode cX4_slide 1 = .ok (.iload_n 1, 1) := by decide +kernel
theorem dX4_slide_2 : decode cX4_slide 2 = .ok (.iconst 1, 1) := by decide +kernel
theorem dX4_slide_3 : decode cX4_slide 3 = .ok (.invokevirtual 57, 3) := by decide +kernel
theorem dX4_slide_6 : decode cX4_slide 6 = .ok (.ifCond .le 44, 3) := by decide +kernel
theorem dX4_slide_9 : decode cX4_slide 9 = .ok (.aload_n 0, 1) := by decide +kernel
theorem dX4_slide_10 : decode cX4_slide 10 = .ok (.invokevirtual 96, 3) := by decide +kernel
theorem dX4_slide_13 : decode cX4_slide 13 = .ok (.iconst 4, 1) := by decide +kernel
theorem dX4_slide_14 : decode cX4_slide 14 = .ok (.iconst 2, 1) := by decide +kernel
theorem dX4_slide_15 : decode cX4_slide 15 = .ok (.aload_n 0, 1) := by decide +kernel
theorem dX4_slide_16 : decode cX4_slide 16 = .ok (.iload_n 1, 1) := by decide +kernel
theorem dX4_slide_17 : decode cX4_slide 17 = .ok (.iconst 1, 1) := by decide +kernel
theorem dX4_slide_18 : decode cX4_slide 18 = .ok (.invokevirtual 57, 3) := by decide +kernel
theorem dX4_slide_21 : decode cX4_slide 21 = .ok (.imul, 1) := by decide +kernel
theorem dX4_slide_22 : decode cX4_slide 22 = .ok (.iadd, 1) := by decide +kernel
theorem dX4_slide_23 : decode cX4_slide 23 = .ok (.if_icmp .le 27, 3) := by decide +kernel
theorem dX4_slide_26 : decode cX4_slide 26 = .ok (.aload_n 0, 1) := by decide +kernel
theorem dX4_slide_27 : decode cX4_slide 27 = .ok (.iload_n 1, 1) := by decide +kernel
theorem dX4_slide_28 : decode cX4_slide 28 = .ok (.iconst 1, 1) := by decide +kernel
theorem dX4_slide_29 : decode cX4_slide 29 = .ok (.aload_n 0, 1) := by decide +kernel
theorem dX4_slide_30 : decode cX4_slide 30 = .ok (.iload_n 1, 1) := by decide +kernel
theorem dX4_slide_31 : decode cX4_slide 31 = .ok (.iconst 1, 1) := by decide +kernel
theorem dX4_slide_32 : decode cX4_slide 32 = .ok (.invokevirtual 57, 3) := by decide +kernel
theorem dX4_slide_35 : decode cX4_slide 35 = .ok (.iconst 1, 1) := by decide +kernel
theorem dX4_slide_36 : decode cX4_slide 36 = .ok (.isub, 1) := by decide +kernel
theorem dX4_slide_37 : decode cX4_slide 37 = .ok (.invokevirtual 50, 3) := by decide +kernel
theorem dX4_slide_40 : decode cX4_slide 40 = .ok (.aload_n 0, 1) := by decide +kernel
theorem dX4_slide_41 : decode cX4_slide 41 = .ok (.getfield 25, 3) := by decide +kernel
theorem dX4_slide_44 : decode cX4_slide 44 = .ok (.iconst 2, 1) := by decide +kernel
theorem dX4_slide_45 : decode cX4_slide 45 = .ok (.dup2, 1) := by decide +kernel
theorem dX4_slide_46 : decode cX4_slide 46 = .ok (.iaload, 1) := by decide +kernel
theorem dX4_slide_47 : decode cX4_slide 47 = .ok (.iconst 1, 1) := by decide +kernel
theorem dX4_slide_48 : decode cX4_slide 48 = .ok (.iadd, 1) := by decide +kernel
theorem dX4_slide_49 : decode cX4_slide 49 = .ok (.iastore, 1) := by decide +kernel
theorem dX4_slide_50 : decode cX4_slide 50 = .ok (.aload_n 0, 1) := by decide +kernel
theorem dX4_slide_51 : decode cX4_slide 51 = .ok (.iload_n 1, 1) := by decide +kernel
theorem dX4_slide_52 : decode cX4_slide 52 = .ok (.iconst 2, 1) := by decide +kernel
theorem dX4_slide_53 : decode cX4_slide 53 = .ok (.iconst 0, 1) := by decide +kernel
theorem dX4_slide_54 : decode cX4_slide 54 = .ok (.aload_n 0, 1) := by decide +kernel
theorem dX4_slide_55 : decode cX4_slide 55 = .ok (.iload_n 1, 1) := by decide +kernel
theorem dX4_slide_56 : decode cX4_slide 56 = .ok (.iconst 2, 1) := by decide +kernel
theorem dX4_slide_57 : decode cX4_slide 57 = .ok (.invokevirtual 57, 3) := by decide +kernel
theorem dX4_slide_60 : decode cX4_slide 60 = .ok (.iconst 4, 1) := by decide +kernel
theorem dX4_slide_61 : decode cX4_slide 61 = .ok (.aload_n 0, 1) := by decide +kernel
theorem dX4_slide_62 : decode cX4_slide 62 = .ok (.iload_n 1, 1) := by decide +kernel
theorem dX4_slide_63 : decode cX4_slide 63 = .ok (.iconst 1, 1) := by decide +kernel
theorem dX4_slide_64 : decode cX4_slide 64 = .ok (.invokevirtual 57, 3) := by decide +kernel
theorem dX4_slide_67 : decode cX4_slide 67 = .ok (.iconst 3, 1) := by decide +kernel
theorem dX4_slide_68 : decode cX4_slide 68 = .ok (.idiv, 1) := by decide +kernel
theorem dX4_slide_69 : decode cX4_slide 69 = .ok (.isub, 1) := by decide +kernel
theorem dX4_slide_70 : decode cX4_slide 70 = .ok (.aload_n 0, 1) := by decide +kernel
theorem dX4_slide_71 : decode cX4_slide 71 = .ok (.invokevirtual 96, 3) := by decide +kernel
theorem dX4_slide_74 : decode cX4_slide 74 = .ok (.iconst 2, 1) := by decide +kernel
theorem dX4_slide_75 : decode cX4_slide 75 = .ok (.idiv, 1) := by decide +kernel
theorem dX4_slide_76 : decode cX4_slide 76 = .ok (.iadd, 1) := by decide +kernel
theorem dX4_slide_77 : decode cX4_slide 77 = .ok (.isub, 1) := by decide +kernel
theorem dX4_slide_78 : decode cX4_slide 78 = .ok (.invokestatic 109, 3) := by decide +kernel
theorem dX4_slide_81 : decode cX4_slide 81 = .ok (.invokevirtual 50, 3) := by decide +kernel
theorem dX4_slide_84 : decode cX4_slide 84 = .ok (.return_, 1) := by decide +kernel
set_option maxRecDepth 20000 in
theorem ggX4_climb_X4_sl : GoodIn wsX4_climb wsX4_sl := goodIn_r _ [9, 10, 15, 16, 17, 18, 19, 20, 21, 22, 23] (by decide +kernel) (by decide +kernel)
set_option maxRecDepth 20000 in
theorem gX4_climb_X4_sl : GoodIn wsX4_climb (wsV RX4 57 RX4 yX4_sl wsX4_sl) := goodIn_app (goodIn_of _ (by decide +kernel)) ggX4_climb_X4_sl
set_option maxRecDepth 20000 in
theorem ggX4_climb_X4_put : GoodIn wsX4_climb wsX4_put := goodIn_r _ [14, 10, 15, 16, 17, 18, 19, 20, 21, 22, 23] (by decide +kernel) (by decide +kernel)
set_option maxRecDepth 20000 in
theorem gX4_climb_X4_put : GoodIn wsX4_climb (wsV RX4 50 RX4 yX4_put wsX4_put) := goodIn_app (goodIn_of _ (by decide +kernel)) ggX4_climb_X4_put
theorem dX4_climb_0 : decode cX4_climb 0 = .ok (.aload_n 0, 1) := by decide +kernel
theorem dX4_climb_1 : decode cX4_climb 1 = .ok (.iload_n 1, 1) := by decide +kernel
theorem dX4_climb_2 : decode cX4_climb 2 = .ok (.iconst 2, 1) := by decide +kernel
theorem dX4_climb_3 : decode cX4_climb 3 = .ok (.bipush 20, 2) := by decide +kernel
theorem dX4_climb_5 : decode cX4_climb 5 = .ok (.aload_n 0, 1) := by decide +kernel
theorem dX4_climb_6 : decode cX4_climb 6 = .ok (.iload_n 1, 1) := by decide +kernel
theorem dX4_climb_7 : decode cX4_climb 7 = .ok (.iconst 2, 1) := by decide +kernel
theorem dX4_climb_8 : decode cX4_climb 8 = .ok (.invokevirtual 57, 3) := by decide +kernel
theorem dX4_climb_11 : decode cX4_climb 11 = .ok (.iconst 5, 1) := by decide +kernel
theorem dX4_climb_12 : decode cX4_climb 12 = .ok (.iadd, 1) := by decide +kernel
theorem dX4_climb_13 : decode cX4_climb 13 = .ok (.invokestatic 112, 3) := by decide +kernel
theorem dX4_climb_16 : decode cX4_climb 16 = .ok (.invokevirtual 50, 3) := by decide +kernel
theorem dX4_climb_19 : decode cX4_climb 19 = .ok (.aload_n 0, 1) := by decide +kernel
theorem dX4_climb_20 : decode cX4_climb 20 = .ok (.iload_n 1, 1) := by decide +kernel
theorem dX4_climb_21 : decode cX4_climb 21 = .ok (.iconst 2, 1) := by decide +kernel
theorem dX4_climb_22 : decode cX4_climb 22 = .ok (.invokevirtual 57, 3) := by decide +kernel
theorem dX4_climb_25 : decode cX4_climb 25 = .ok (.bipush 20, 2) := by decide +kernel
theorem dX4_climb_27 : decode cX4_climb 27 = .ok (.if_icmp .ne 10, 3) := by decide +kernel
theorem dX4_climb_30 : decode cX4_climb 30 = .ok (.aload_n 0, 1) := by decide +kernel
theorem dX4_climb_31 : decode cX4_climb 31 = .ok (.iload_n 1, 1) := by decide +kernel
theorem dX4_climb_32 : decode cX4_climb 32 = .ok (.iconst 3, 1) := by decide +kernel
theorem dX4_climb_33 : decode cX4_climb 33 = .ok (.iconst 0, 1) := by decide +kernel
theorem dX4_climb_34 : decode cX4_climb 34 = .ok (.invokevirtual 50, 3) := by decide +kernel
theorem dX4_climb_37 : decode cX4_climb 37 = .ok (.return_, 1) := by decide +kernel
set_option maxRecDepth 20000 in
theorem ggX4_unload_X4_sl : GoodIn wsX4_unload wsX4_sl := goodIn_r _ [6, 7, 15, 16, 17, 18, 19, 20, 21, 22, 23] (by decide +kernel) (by decide +kernel)
set_option maxRecDepth 20000 in
theorem gX4_unload_X4_sl : GoodIn wsX4_unload (wsV RX4 57 RX4 yX4_sl wsX4_sl) := goodIn_app (goodIn_of _ (by decide +kernel)) ggX4_unload_X4_sl
set_option maxRecDepth 20000 in
theorem ggX4_unload_X4_kind : GoodIn wsX4_unload wsX4_kind := goodIn_r _ [10] (by decide +kernel) (by decide +kernel)
set_option maxRecDepth 20000 in
theorem gX4_unload_X4_kind : GoodIn wsX4_unload (va_wsS RX4 61 yX4_kind wsX4_kind) := goodIn_app (goodIn_of _ (by decide +kernel)) ggX4_unload_X4_kind
set_option maxRecDepth 20000 in
theorem ggX4_unload_X4_put : GoodIn wsX4_unload wsX4_put := goodIn_r _ [14, 7, 15, 16, 17, 18, 19, 20, 21, 22, 23] (by decide +kernel) (by decide +kernel)
set_option maxRecDepth 20000 in
theorem gX4_unload_X4_put : GoodIn wsX4_unload (wsV RX4 50 RX4 yX4_put wsX4_put) := goodIn_app (goodIn_of _ (by decide +kernel)) ggX4_unload_X4_put
theorem dX4_unload_0 : decode cX4_unload 0 = .ok (.iconst 0, 1) := by decide +kernel
theorem dX4_unload_1 : decode cX4_unload 1 = .ok (.istore_n 2, 1) := by decide +kernel
theorem dX4_unload_2 : decode cX4_unload 2 = .ok (.iload_n 2, 1) := by decide +kernel
theorem dX4_unload_3 : decode cX4_unload 3 = .ok (.aload_n 0, 1) := by decide +kernel
theorem dX4_unload_4 : decode cX4_unload 4 = .ok (.iload_n 1, 1) := by decide +kernel
theorem dX4_unload_5 : decode cX4_unload 5 = .ok (.iconst 1, 1) := by decide +kernel
theorem dX4_unload_6 : decode cX4_unload 6 = .ok (.invokevirtual 57, 3) := by decide +kernel
theorem dX4_unload_9 : decode cX4_unload 9 = .ok (.if_icmp .ge 31, 3) := by decide +kernel
theorem dX4_unload_12 : decode cX4_unload 12 = .ok (.aload_n 0, 1) := by decide +kernel
theorem dX4_unload_13 : decode cX4_unload 13 = .ok (.getfield 25, 3) := by decide +kernel
theorem dX4_unload_16 : decode cX4_unload 16 = .ok (.iconst 3, 1) := by decide +kernel
theorem dX4_unload_17 : decode cX4_unload 17 = .ok (.aload_n 0, 1) := by decide +kernel
theorem dX4_unload_18 : decode cX4_unload 18 = .ok (.iload_n 1, 1) := by decide +kernel
theorem dX4_unload_19 : decode cX4_unload 19 = .ok (.iconst 4, 1) := by decide +kernel
theorem dX4_unload_20 : decode cX4_unload 20 = .ok (.iload_n 2, 1) := by decide +kernel
theorem dX4_unload_21 : decode cX4_unload 21 = .ok (.iadd, 1) := by decide +kernel
theorem dX4_unload_22 : decode cX4_unload 22 = .ok (.invokevirtual 57, 3) := by decide +kernel
theorem dX4_unload_25 : decode cX4_unload 25 = .ok (.invokestatic 61, 3) := by decide +kernel
theorem dX4_unload_28 : decode cX4_unload 28 = .ok (.iadd, 1) := by decide +kernel
theorem dX4_unload_29 : decode cX4_unload 29 = .ok (.dup2, 1) := by decide +kernel
theorem dX4_unload_30 : decode cX4_unload 30 = .ok (.iaload, 1) := by decide +kernel
theorem dX4_unload_31 : decode cX4_unload 31 = .ok (.iconst 1, 1) := by decide +kernel
theorem dX4_unload_32 : decode cX4_unload 32 = .ok (.iadd, 1) := by decide +kernel
theorem dX4_unload_33 : decode cX4_unload 33 = .ok (.iastore, 1) := by decide +kernel
theorem dX4_unload_34 : decode cX4_unload 34 = .ok (.iinc 2 1, 3) := by decide +kernel
theorem dX4_unload_37 : decode cX4_unload 37 = .ok (.goto (-35), 3) := by decide +kernel
theorem dX4_unload_40 : decode cX4_unload 40 = .ok (.aload_n 0, 1) := by decide +kernel
theorem dX4_unload_41 : decode cX4_unload 41 = .ok (.iload_n 1, 1) := by decide +kernel
theorem dX4_unload_42 : decode cX4_unload 42 = .ok (.iconst 1, 1) := by decide +kernel
theorem dX4_unload_43 : decode cX4_unload 43 = .ok (.iconst 0, 1) := by decide +kernel
theorem dX4_unload_44 : decode cX4_unload 44 = .ok (.invokevirtual 50, 3) := by decide +kernel
theorem dX4_unload_47 : decode cX4_unload 47 = .ok (.aload_n 0, 1) := by decide +kernel
theorem dX4_unload_48 : decode cX4_unload 48 = .ok (.iload_n 1, 1) := by decide +kernel
theorem dX4_unload_49 : decode cX4_unload 49 = .ok (.iconst 3, 1) := by decide +kernel
theorem dX4_unload_50 : decode cX4_unload 50 = .ok (.iconst 2, 1) := by decide +kernel
theorem dX4_unload_51 : decode cX4_unload 51 = .ok (.invokevirtual 50, 3) := by decide +kernel
theorem dX4_unload_54 : decode cX4_unload 54 = .ok (.return_, 1) := by decide +kernel
set_option maxRecDepth 20000 in
theorem ggX4_hourOn_X4_sl : GoodIn wsX4_hourOn wsX4_sl := goodIn_r _ [7, 8, 40, 41, 42, 43, 44, 45, 46, 47, 48] (by decide +kernel) (by decide +kernel)
set_option maxRecDepth 20000 in
theorem gX4_hourOn_X4_sl : GoodIn wsX4_hourOn (wsV RX4 57 RX4 yX4_sl wsX4_sl) := goodIn_app (goodIn_of _ (by decide +kernel)) ggX4_hourOn_X4_sl
set_option maxRecDepth 20000 in
theorem ggX4_hourOn_X4_slide : GoodIn wsX4_hourOn wsX4_slide := goodIn_r _ [12, 2, 13, 14, 15, 16, 3, 4, 5, 6, 7, 8, 17, 18, 19, 20, 21, 22, 23, 24, 25, 40, 41, 42, 43, 44, 45, 46, 47, 48] (by decide +kernel) (by decide +kernel)
set_option maxRecDepth 20000 in
theorem gX4_hourOn_X4_slide : GoodIn wsX4_hourOn (wsV RX4 115 RX4 yX4_slide wsX4_slide) := goodIn_app (goodIn_of _ (by decide +kernel)) ggX4_hourOn_X4_slide
set_option maxRecDepth 20000 in
theorem ggX4_hourOn_X4_climb : GoodIn wsX4_hourOn wsX4_climb := goodIn_r _ [29, 30, 31, 15, 32, 3, 4, 5, 6, 7, 8, 22, 23, 24, 25, 40, 41, 42, 43, 44, 45, 46, 47, 48] (by decide +kernel) (by decide +kernel)
set_option maxRecDepth 20000 in
theorem gX4_hourOn_X4_climb : GoodIn wsX4_hourOn (wsV RX4 119 RX4 yX4_climb wsX4_climb) := goodIn_app (goodIn_of _ (by decide +kernel)) ggX4_hourOn_X4_climb
set_option maxRecDepth 20000 in
theorem ggX4_hourOn_X4_unload : GoodIn wsX4_hourOn wsX4_unload := goodIn_r _ [36, 2, 3, 4, 5, 6, 7, 8, 37, 38, 39, 22, 23, 24, 25, 40, 41, 42, 43, 44, 45, 46, 47, 48] (by decide +kernel) (by decide +kernel)
set_option maxRecDepth 20000 in
theorem gX4_hourOn_X4_unload : GoodIn wsX4_hourOn (wsV RX4 122 RX4 yX4_unload wsX4_unload) := goodIn_app (goodIn_of _ (by decide +kernel)) ggX4_hourOn_X4_unload
theorem dX4_hourOn_0 : decode cX4_hourOn 0 = .ok (.iconst 0, 1) := by decide +kernel
theorem dX4_hourOn_1 : decode cX4_hourOn 1 = .ok (.istore_n 1, 1) := by decide +kernel
theorem dX4_hourOn_2 : decode cX4_hourOn 2 = .ok (.iload_n 1, 1) := by decide +kernel
theorem dX4_hourOn_3 : decode cX4_hourOn 3 = .ok (.aload_n 0, 1) := by decide +kernel
theorem dX4_hourOn_4 : decode cX4_hourOn 4 = .ok (.getfield 32, 3) := by decide +kernel
theorem dX4_hourOn_7 : decode cX4_hourOn 7 = .ok (.if_icmp .ge 24, 3) := by decide +kernel
theorem dX4_hourOn_10 : decode cX4_hourOn 10 = .ok (.aload_n 0, 1) := by decide +kernel
theorem dX4_hourOn_11 : decode cX4_hourOn 11 = .ok (.iload_n 1, 1) := by decide +kernel
theorem dX4_hourOn_12 : decode cX4_hourOn 12 = .ok (.iconst 3, 1) := by decide +kernel
theorem dX4_hourOn_13 : decode cX4_hourOn 13 = .ok (.invokevirtual 57, 3) := by decide +kernel
theorem dX4_hourOn_16 : decode cX4_hourOn 16 = .ok (.iconst 1, 1) := by decide +kernel
theorem dX4_hourOn_17 : decode cX4_hourOn 17 = .ok (.if_icmp .ne 8, 3) := by decide +kernel
theorem dX4_hourOn_20 : decode cX4_hourOn 20 = .ok (.aload_n 0, 1) := by decide +kernel
theorem dX4_hourOn_21 : decode cX4_hourOn 21 = .ok (.iload_n 1, 1) := by decide +kernel
theorem dX4_hourOn_22 : decode cX4_hourOn 22 = .ok (.invokevirtual 115, 3) := by decide +kernel
theorem dX4_hourOn_25 : decode cX4_hourOn 25 = .ok (.iinc 1 1, 3) := by decide +kernel
theorem dX4_hourOn_28 : decode cX4_hourOn 28 = .ok (.goto (-26), 3) := by decide +kernel
theorem dX4_hourOn_31 : decode cX4_hourOn 31 = .ok (.iconst 0, 1) := by decide +kernel
theorem dX4_hourOn_32 : decode cX4_hourOn 32 = .ok (.istore_n 1, 1) := by decide +kernel
theorem dX4_hourOn_33 : decode cX4_hourOn 33 = .ok (.iload_n 1, 1) := by decide +kernel
theorem dX4_hourOn_34 : decode cX4_hourOn 34 = .ok (.aload_n 0, 1) := by decide +kernel
theorem dX4_hourOn_35 : decode cX4_hourOn 35 = .ok (.getfield 32, 3) := by decide +kernel
theorem dX4_hourOn_38 : decode cX4_hourOn 38 = .ok (.if_icmp .ge 24, 3) := by decide +kernel
theorem dX4_hourOn_41 : decode cX4_hourOn 41 = .ok (.aload_n 0, 1) := by decide +kernel
theorem dX4_hourOn_42 : decode cX4_hourOn 42 = .ok (.iload_n 1, 1) := by decide +kernel
theorem dX4_hourOn_43 : decode cX4_hourOn 43 = .ok (.iconst 3, 1) := by decide +kernel
theorem dX4_hourOn_44 : decode cX4_hourOn 44 = .ok (.invokevirtual 57, 3) := by decide +kernel
theorem dX4_hourOn_47 : decode cX4_hourOn 47 = .ok (.iconst 2, 1) := by decide +kernel
theorem dX4_hourOn_48 : decode cX4_hourOn 48 = .ok (.if_icmp .ne 8, 3) := by decide +kernel
theorem dX4_hourOn_51 : decode cX4_hourOn 51 = .ok (.aload_n 0, 1) := by decide +kernel
theorem dX4_hourOn_52 : decode cX4_hourOn 52 = .ok (.iload_n 1, 1) := by decide +kernel
theorem dX4_hourOn_53 : decode cX4_hourOn 53 = .ok (.invokevirtual 119, 3) := by decide +kernel
theorem dX4_hourOn_56 : decode cX4_hourOn 56 = .ok (.iinc 1 1, 3) := by decide +kernel
theorem dX4_hourOn_59 : decode cX4_hourOn 59 = .ok (.goto (-26), 3) := by decide +kernel
theorem dX4_hourOn_62 : decode cX4_hourOn 62 = .ok (.iconst 0, 1) := by decide +kernel
theorem dX4_hourOn_63 : decode cX4_hourOn 63 = .ok (.istore_n 1, 1) := by decide +kernel
theorem dX4_hourOn_64 : decode cX4_hourOn 64 = .ok (.iload_n 1, 1) := by decide +kernel
theorem dX4_hourOn_65 : decode cX4_hourOn 65 = .ok (.aload_n 0, 1) := by decide +kernel
theorem dX4_hourOn_66 : decode cX4_hourOn 66 = .ok (.getfield 32, 3) := by decide +kernel
theorem dX4_hourOn_69 : decode cX4_hourOn 69 = .ok (.if_icmp .ge 33, 3) := by decide +kernel
theorem dX4_hourOn_72 : decode cX4_hourOn 72 = .ok (.aload_n 0, 1) := by decide +kernel
theorem dX4_hourOn_73 : decode cX4_hourOn 73 = .ok (.iload_n 1, 1) := by decide +kernel
theorem dX4_hourOn_74 : decode cX4_hourOn 74 = .ok (.iconst 3, 1) := by decide +kernel
theorem dX4_hourOn_75 : decode cX4_hourOn 75 = .ok (.invokevirtual 57, 3) := by decide +kernel
theorem dX4_hourOn_78 : decode cX4_hourOn 78 = .ok (.iconst 1, 1) := by decide +kernel
theorem dX4_hourOn_79 : decode cX4_hourOn 79 = .ok (.if_icmp .ne 17, 3) := by decide +kernel
theorem dX4_hourOn_82 : decode cX4_hourOn 82 = .ok (.aload_n 0, 1) := by decide +kernel
theorem dX4_hourOn_83 : decode cX4_hourOn 83 = .ok (.iload_n 1, 1) := by decide +kernel
theorem dX4_hourOn_84 : decode cX4_hourOn 84 = .ok (.iconst 2, 1) := by decide +kernel
theorem dX4_hourOn_85 : decode cX4_hourOn 85 = .ok (.invokevirtual 57, 3) := by decide +kernel
theorem dX4_hourOn_88 : decode cX4_hourOn 88 = .ok (.ifCond .ne 8, 3) := by decide +kernel
theorem dX4_hourOn_91 : decode cX4_hourOn 91 = .ok (.aload_n 0, 1) := by decide +kernel
theorem dX4_hourOn_92 : decode cX4_hourOn 92 = .ok (.iload_n 1, 1) := by decide +kernel
theorem dX4_hourOn_93 : decode cX4_hourOn 93 = .ok (.invokevirtual 122, 3) := by decide +kernel
theorem dX4_hourOn_96 : decode cX4_hourOn 96 = .ok (.iinc 1 1, 3) := by decide +kernel
theorem dX4_hourOn_99 : decode cX4_hourOn 99 = .ok (.goto (-35), 3) := by decide +kernel
theorem dX4_hourOn_102 : decode cX4_hourOn 102 = .ok (.aload_n 0, 1) := by decide +kernel
theorem dX4_hourOn_103 : decode cX4_hourOn 103 = .ok (.getfield 25, 3) := by decide +kernel
theorem dX4_hourOn_106 : decode cX4_hourOn 106 = .ok (.iconst 0, 1) := by decide +kernel
theorem dX4_hourOn_107 : decode cX4_hourOn 107 = .ok (.dup2, 1) := by decide +kernel
theorem dX4_hourOn_108 : decode cX4_hourOn 108 = .ok (.iaload, 1) := by decide +kernel
theorem dX4_hourOn_109 : decode cX4_hourOn 109 = .ok (.iconst 1, 1) := by decide +kernel
theorem dX4_hourOn_110 : decode cX4_hourOn 110 = .ok (.iadd, 1) := by decide +kernel
theorem dX4_hourOn_111 : decode cX4_hourOn 111 = .ok (.iastore, 1) := by decide +kernel
theorem dX4_hourOn_112 : decode cX4_hourOn 112 = .ok (.return_, 1) := by decide +kernel
set_option maxRecDepth 20000 in
theorem ggX4_hoursOn_X4_ashore : GoodIn wsX4_hoursOn wsX4_ashore := goodIn_r _ [5, 6, 48, 49, 50, 51, 52, 53, 54, 55, 56] (by decide +kernel) (by decide +kernel)
set_option maxRecDepth 20000 in
theorem gX4_hoursOn_X4_ashore : GoodIn wsX4_hoursOn (wsV RX4 103 RX4 yX4_ashore wsX4_ashore) := goodIn_app (goodIn_of _ (by decide +kernel)) ggX4_hoursOn_X4_ashore
set_option maxRecDepth 20000 in
theorem ggX4_hoursOn_X4_hourOn : GoodIn wsX4_hoursOn wsX4_hourOn := goodIn_r _ [10, 11, 6, 12, 13, 14, 4, 15, 16, 17, 18, 19, 20, 21, 22, 23, 24, 25, 26, 27, 28, 29, 30, 31, 32, 33, 34, 35, 36, 37, 38, 39, 40, 41, 42, 43, 44, 45, 46, 47, 48, 49, 50, 51, 52, 53, 54, 55, 56] (by decide +kernel) (by decide +kernel)
set_option maxRecDepth 20000 in
theorem gX4_hoursOn_X4_hourOn : GoodIn wsX4_hoursOn (wsV RX4 125 RX4 yX4_hourOn wsX4_hourOn) := goodIn_app (goodIn_of _ (by decide +kernel)) ggX4_hoursOn_X4_hourOn
theorem dX4_hoursOn_0 : decode cX4_hoursOn 0 = .ok (.aload_n 0, 1) := by decide +kernel
theorem dX4_hoursOn_1 : decode cX4_hoursOn 1 = .ok (.invokevirtual 103, 3) := by decide +kernel
theorem dX4_hoursOn_4 : decode cX4_hoursOn 4 = .ok (.istore_n 2, 1) := by decide +kernel
theorem dX4_hoursOn_5 : decode cX4_hoursOn 5 = .ok (.iconst 0, 1) := by decide +kernel
theorem dX4_hoursOn_6 : decode cX4_hoursOn 6 = .ok (.istore_n 3, 1) := by decide +kernel
theorem dX4_hoursOn_7 : decode cX4_hoursOn 7 = .ok (.iload_n 3, 1) := by decide +kernel
theorem dX4_hoursOn_8 : decode cX4_hoursOn 8 = .ok (.iload_n 1, 1) := by decide +kernel
theorem dX4_hoursOn_9 : decode cX4_hoursOn 9 = .ok (.if_icmp .ge 13, 3) := by decide +kernel
theorem dX4_hoursOn_12 : decode cX4_hoursOn 12 = .ok (.aload_n 0, 1) := by decide +kernel
theorem dX4_hoursOn_13 : decode cX4_hoursOn 13 = .ok (.invokevirtual 125, 3) := by decide +kernel
theorem dX4_hoursOn_16 : decode cX4_hoursOn 16 = .ok (.iinc 3 1, 3) := by decide +kernel
theorem dX4_hoursOn_19 : decode cX4_hoursOn 19 = .ok (.goto (-12), 3) := by decide +kernel
theorem dX4_hoursOn_22 : decode cX4_hoursOn 22 = .ok (.aload_n 0, 1) := by decide +kernel
theorem dX4_hoursOn_23 : decode cX4_hoursOn 23 = .ok (.invokevirtual 103, 3) := by decide +kernel
theorem dX4_hoursOn_26 : decode cX4_hoursOn 26 = .ok (.iload_n 2, 1) := by decide +kernel
theorem dX4_hoursOn_27 : decode cX4_hoursOn 27 = .ok (.isub, 1) := by decide +kernel
theorem dX4_hoursOn_28 : decode cX4_hoursOn 28 = .ok (.ireturn, 1) := by decide +kernel
set_option maxRecDepth 20000 in
theorem ggX4_pass_X4_isIn : GoodIn wsX4_pass wsX4_isIn := goodIn_r _ [5] (by decide +kernel) (by decide +kernel)
set_option maxRecDepth 20000 in
theorem gX4_pass_X4_isIn : GoodIn wsX4_pass (va_wsS RX4 35 yX4_isIn wsX4_isIn) := goodIn_app (goodIn_of _ (by decide +kernel)) ggX4_pass_X4_isIn
set_option maxRecDepth 20000 in
theorem ggX4_pass_X4_hoursOn : GoodIn wsX4_pass wsX4_hoursOn := goodIn_r _ [9, 10, 11, 12, 4, 13, 14, 15, 16, 17, 18, 19, 20, 21, 22, 23, 24, 25, 26, 27, 28, 29, 30, 31, 32, 33, 34, 35, 36, 37, 38, 39, 40, 41, 42, 43, 44, 45, 46, 47, 48, 49, 50, 51, 52, 53, 54, 55, 60, 61, 62, 63, 64, 65, 66, 67, 68] (by decide +kernel) (by decide +kernel)
set_option maxRecDepth 20000 in
theorem gX4_pass_X4_hoursOn : GoodIn wsX4_pass (wsV RX4 128 RX4 yX4_hoursOn wsX4_hoursOn) := goodIn_app (goodIn_of _ (by decide +kernel)) ggX4_pass_X4_hoursOn
set_option maxRecDepth 20000 in
theorem ggX4_pass_X4_fail : GoodIn wsX4_pass wsX4_fail := goodIn_r _ [59, 1, 60, 61, 62, 63, 64, 65, 66, 67, 68] (by decide +kernel) (by decide +kernel)
set_option maxRecDepth 20000 in
theorem gX4_pass_X4_fail : GoodIn wsX4_pass (wsV RX4 46 RX4 yX4_fail wsX4_fail) := goodIn_app (goodIn_of _ (by decide +kernel)) ggX4_pass_X4_fail
theorem dX4_pass_0 : decode cX4_pass 0 = .ok (.aload_n 0, 1) := by decide +kernel
theorem dX4_pass_1 : decode cX4_pass 1 = .ok (.iconst 0, 1) := by decide +kernel
theorem dX4_pass_2 : decode cX4_pass 2 = .ok (.putfield 28, 3) := by decide +kernel
theorem dX4_pass_5 : decode cX4_pass 5 = .ok (.iload_n 1, 1) := by decide +kernel
theorem dX4_pass_6 : decode cX4_pass 6 = .ok (.iconst 1, 1) := by decide +kernel
theorem dX4_pass_7 : decode cX4_pass 7 = .ok (.bipush 60, 2) := by decide +kernel
theorem dX4_pass_9 : decode cX4_pass 9 = .ok (.invokestatic 35, 3) := by decide +kernel
theorem dX4_pass_12 : decode cX4_pass 12 = .ok (.ifCond .eq 11, 3) := by decide +kernel
theorem dX4_pass_15 : decode cX4_pass 15 = .ok (.aload_n 0, 1) := by decide +kernel
theorem dX4_pass_16 : decode cX4_pass 16 = .ok (.iload_n 1, 1) := by decide +kernel
theorem dX4_pass_17 : decode cX4_pass 17 = .ok (.invokevirtual 128, 3) := by decide +kernel
theorem dX4_pass_20 : decode cX4_pass 20 = .ok (.goto 8, 3) := by decide +kernel
theorem dX4_pass_23 : decode cX4_pass 23 = .ok (.aload_n 0, 1) := by decide +kernel
theorem dX4_pass_24 : decode cX4_pass 24 = .ok (.iconst 1, 1) := by decide +kernel
theorem dX4_pass_25 : decode cX4_pass 25 = .ok (.invokevirtual 46, 3) := by decide +kernel
theorem dX4_pass_28 : decode cX4_pass 28 = .ok (.ireturn, 1) := by decide +kernel
theorem dX4_kept_0 : decode cX4_kept 0 = .ok (.iconst 2, 1) := by decide +kernel
theorem dX4_kept_1 : decode cX4_kept 1 = .ok (.anewarray 131, 3) := by decide +kernel
theorem dX4_kept_4 : decode cX4_kept 4 = .ok (.dup, 1) := by decide +kernel
theorem dX4_kept_5 : decode cX4_kept 5 = .ok (.iconst 0, 1) := by decide +kernel
theorem dX4_kept_6 : decode cX4_kept 6 = .ok (.aload_n 0, 1) := by decide +kernel
theorem dX4_kept_7 : decode cX4_kept 7 = .ok (.getfield 19, 3) := by decide +kernel
theorem dX4_kept_10 : decode cX4_kept 10 = .ok (.invokevirtual 132, 3) := by decide +kernel
theorem dX4_kept_13 : decode cX4_kept 13 = .ok (.checkcast 131, 3) := by decide +kernel
theorem dX4_kept_16 : decode cX4_kept 16 = .ok (.aastore, 1) := by decide +kernel
theorem dX4_kept_17 : decode cX4_kept 17 = .ok (.dup, 1) := by decide +kernel
theorem dX4_kept_18 : decode cX4_kept 18 = .ok (.iconst 1, 1) := by decide +kernel
theorem dX4_kept_19 : decode cX4_kept 19 = .ok (.aload_n 0, 1) := by decide +kernel
theorem dX4_kept_20 : decode cX4_kept 20 = .ok (.getfield 25, 3) := by decide +kernel
theorem dX4_kept_23 : decode cX4_kept 23 = .ok (.invokevirtual 132, 3) := by decide +kernel
theorem dX4_kept_26 : decode cX4_kept 26 = .ok (.checkcast 131, 3) := by decide +kernel
theorem dX4_kept_29 : decode cX4_kept 29 = .ok (.aastore, 1) := by decide +kernel
theorem dX4_kept_30 : decode cX4_kept 30 = .ok (.areturn, 1) := by decide +kernel
theorem dX4_bringBack_0 : decode cX4_bringBack 0 = .ok (.aload_n 1, 1) := by decide +kernel
theorem dX4_bringBack_1 : decode cX4_bringBack 1 = .ok (.iconst 0, 1) := by decide +kernel
theorem dX4_bringBack_2 : decode cX4_bringBack 2 = .ok (.aaload, 1) := by decide +kernel
theorem dX4_bringBack_3 : decode cX4_bringBack 3 = .ok (.iconst 0, 1) := by decide +kernel
theorem dX4_bringBack_4 : decode cX4_bringBack 4 = .ok (.aload_n 0, 1) := by decide +kernel
theorem dX4_bringBack_5 : decode cX4_bringBack 5 = .ok (.getfield 19, 3) := by decide +kernel
theorem dX4_bringBack_8 : decode cX4_bringBack 8 = .ok (.iconst 0, 1) := by decide +kernel
theorem dX4_bringBack_9 : decode cX4_bringBack 9 = .ok (.aload_n 0, 1) := by decide +kernel
theorem dX4_bringBack_10 : decode cX4_bringBack 10 = .ok (.getfield 19, 3) := by decide +kernel
theorem dX4_bringBack_13 : decode cX4_bringBack 13 = .ok (.arraylength, 1) := by decide +kernel
theorem dX4_bringBack_14 : decode cX4_bringBack 14 = .ok (.invokestatic 136, 3) := by decide +kernel
theorem dX4_bringBack_17 : decode cX4_bringBack 17 = .ok (.aload_n 1, 1) := by decide +kernel
theorem dX4_bringBack_18 : decode cX4_bringBack 18 = .ok (.iconst 1, 1) := by decide +kernel
theorem dX4_bringBack_19 : decode cX4_bringBack 19 = .ok (.aaload, 1) := by decide +kernel
theorem dX4_bringBack_20 : decode cX4_bringBack 20 = .ok (.iconst 0, 1) := by decide +kernel
theorem dX4_bringBack_21 : decode cX4_bringBack 21 = .ok (.aload_n 0, 1) := by decide +kernel
theorem dX4_bringBack_22 : decode cX4_bringBack 22 = .ok (.getfield 25, 3) := by decide +kernel
theorem dX4_bringBack_25 : decode cX4_bringBack 25 = .ok (.iconst 0, 1) := by decide +kernel
theorem dX4_bringBack_26 : decode cX4_bringBack 26 = .ok (.aload_n 0, 1) := by decide +kernel
theorem dX4_bringBack_27 : decode cX4_bringBack 27 = .ok (.getfield 25, 3) := by decide +kernel
theorem dX4_bringBack_30 : decode cX4_bringBack 30 = .ok (.arraylength, 1) := by decide +kernel
theorem dX4_bringBack_31 : decode cX4_bringBack 31 = .ok (.invokestatic 136, 3) := by decide +kernel
theorem dX4_bringBack_34 : decode cX4_bringBack 34 = .ok (.return_, 1) := by decide +kernel
set_option maxRecDepth 20000 in
theorem ggX4_back_X4_isSledge : GoodIn wsX4_back wsX4_isSledge := goodIn_r _ [6, 7, 8, 9, 5, 10, 74, 75, 76, 77, 78, 79, 80, 81, 82] (by decide +kernel) (by decide +kernel)
set_option maxRecDepth 20000 in
theorem gX4_back_X4_isSledge : GoodIn wsX4_back (wsV RX4 54 RX4 yX4_isSledge wsX4_isSledge) := goodIn_app (goodIn_of _ (by decide +kernel)) ggX4_back_X4_isSledge
set_option maxRecDepth 20000 in
theorem ggX4_back_X4_fail : GoodIn wsX4_back wsX4_fail := goodIn_r _ [14, 1, 74, 75, 76, 77, 78, 79, 80, 81, 82] (by decide +kernel) (by decide +kernel)
set_option maxRecDepth 20000 in
theorem gX4_back_X4_fail : GoodIn wsX4_back (wsV RX4 46 RX4 yX4_fail wsX4_fail) := goodIn_app (goodIn_of _ (by decide +kernel)) ggX4_back_X4_fail
set_option maxRecDepth 20000 in
theorem ggX4_back_X4_kept : GoodIn wsX4_back wsX4_kept := goodIn_r _ [18, 19, 20, 21, 22, 23, 24, 25, 26, 74, 75, 76, 77, 78, 79, 80, 81, 82] (by decide +kernel) (by decide +kernel)
set_option maxRecDepth 20000 in
theorem gX4_back_X4_kept : GoodIn wsX4_back (wsV RX4 142 RX4 yX4_kept wsX4_kept) := goodIn_app (goodIn_of _ (by decide +kernel)) ggX4_back_X4_kept
set_option maxRecDepth 20000 in
theorem ggX4_back_X4_sl : GoodIn wsX4_back wsX4_sl := goodIn_r _ [30, 20, 74, 75, 76, 77, 78, 79, 80, 81, 82] (by decide +kernel) (by decide +kernel)
set_option maxRecDepth 20000 in
theorem gX4_back_X4_sl : GoodIn wsX4_back (wsV RX4 57 RX4 yX4_sl wsX4_sl) := goodIn_app (goodIn_of _ (by decide +kernel)) ggX4_back_X4_sl
set_option maxRecDepth 20000 in
theorem ggX4_back_X4_hourOn : GoodIn wsX4_back wsX4_hourOn := goodIn_r _ [34, 7, 26, 27, 28, 29, 5, 30, 20, 35, 36, 37, 38, 39, 40, 41, 42, 43, 44, 45, 46, 47, 48, 49, 50, 51, 52, 53, 54, 55, 56, 57, 58, 59, 60, 61, 62, 63, 64, 65, 74, 75, 76, 77, 78, 79, 80, 81, 82] (by decide +kernel) (by decide +kernel)
set_option maxRecDepth 20000 in
theorem gX4_back_X4_hourOn : GoodIn wsX4_back (wsV RX4 125 RX4 yX4_hourOn wsX4_hourOn) := goodIn_app (goodIn_of _ (by decide +kernel)) ggX4_back_X4_hourOn
set_option maxRecDepth 20000 in
theorem ggX4_back_X4_bringBack : GoodIn wsX4_back wsX4_bringBack := goodIn_r _ [69, 20, 70, 71, 72, 73, 26, 74, 75, 76, 77, 78, 79, 80, 81, 82] (by decide +kernel) (by decide +kernel)
set_option maxRecDepth 20000 in
theorem gX4_back_X4_bringBack : GoodIn wsX4_back (wsV RX4 146 RX4 yX4_bringBack wsX4_bringBack) := goodIn_app (goodIn_of _ (by decide +kernel)) ggX4_back_X4_bringBack
theorem dX4_back_0 : decode cX4_back 0 = .ok (.aload_n 0, 1) := by decide +kernel
theorem dX4_back_1 : decode cX4_back 1 = .ok (.iconst 0, 1) := by decide +kernel
theorem dX4_back_2 : decode cX4_back 2 = .ok (.putfield 28, 3) := by decide +kernel
theorem dX4_back_5 : decode cX4_back 5 = .ok (.aload_n 0, 1) := by decide +kernel
theorem dX4_back_6 : decode cX4_back 6 = .ok (.iload_n 1, 1) := by decide +kernel
theorem dX4_back_7 : decode cX4_back 7 = .ok (.invokevirtual 54, 3) := by decide +kernel
theorem dX4_back_10 : decode cX4_back 10 = .ok (.ifCond .ne 9, 3) := by decide +kernel
theorem dX4_back_13 : decode cX4_back 13 = .ok (.aload_n 0, 1) := by decide +kernel
theorem dX4_back_14 : decode cX4_back 14 = .ok (.iconst 1, 1) := by decide +kernel
theorem dX4_back_15 : decode cX4_back 15 = .ok (.invokevirtual 46, 3) := by decide +kernel
theorem dX4_back_18 : decode cX4_back 18 = .ok (.ireturn, 1) := by decide +kernel
theorem dX4_back_19 : decode cX4_back 19 = .ok (.aload_n 0, 1) := by decide +kernel
theorem dX4_back_20 : decode cX4_back 20 = .ok (.invokevirtual 142, 3) := by decide +kernel
theorem dX4_back_23 : decode cX4_back 23 = .ok (.astore_n 2, 1) := by decide +kernel
theorem dX4_back_24 : decode cX4_back 24 = .ok (.iconst 0, 1) := by decide +kernel
theorem dX4_back_25 : decode cX4_back 25 = .ok (.istore_n 3, 1) := by decide +kernel
theorem dX4_back_26 : decode cX4_back 26 = .ok (.aload_n 0, 1) := by decide +kernel
theorem dX4_back_27 : decode cX4_back 27 = .ok (.iload_n 1, 1) := by decide +kernel
theorem dX4_back_28 : decode cX4_back 28 = .ok (.iconst 3, 1) := by decide +kernel
theorem dX4_back_29 : decode cX4_back 29 = .ok (.invokevirtual 57, 3) := by decide +kernel
theorem dX4_back_32 : decode cX4_back 32 = .ok (.ifCond .eq 13, 3) := by decide +kernel
theorem dX4_back_35 : decode cX4_back 35 = .ok (.aload_n 0, 1) := by decide +kernel
theorem dX4_back_36 : decode cX4_back 36 = .ok (.invokevirtual 125, 3) := by decide +kernel
theorem dX4_back_39 : decode cX4_back 39 = .ok (.iinc 3 1, 3) := by decide +kernel
theorem dX4_back_42 : decode cX4_back 42 = .ok (.goto (-16), 3) := by decide +kernel
theorem dX4_back_45 : decode cX4_back 45 = .ok (.aload_n 0, 1) := by decide +kernel
theorem dX4_back_46 : decode cX4_back 46 = .ok (.aload_n 2, 1) := by decide +kernel
theorem dX4_back_47 : decode cX4_back 47 = .ok (.invokevirtual 146, 3) := by decide +kernel
theorem dX4_back_50 : decode cX4_back 50 = .ok (.iload_n 3, 1) := by decide +kernel
theorem dX4_back_51 : decode cX4_back 51 = .ok (.ireturn, 1) := by decide +kernel
set_option maxRecDepth 20000 in
theorem ggX4_arrives_X4_isSledge : GoodIn wsX4_arrives wsX4_isSledge := goodIn_r _ [7, 8, 9, 10, 6, 11, 56, 57, 58, 59, 60, 61, 62, 63, 64] (by decide +kernel) (by decide +kernel)
set_option maxRecDepth 20000 in
theorem gX4_arrives_X4_isSledge : GoodIn wsX4_arrives (wsV RX4 54 RX4 yX4_isSledge wsX4_isSledge) := goodIn_app (goodIn_of _ (by decide +kernel)) ggX4_arrives_X4_isSledge
set_option maxRecDepth 20000 in
theorem ggX4_arrives_X4_fail : GoodIn wsX4_arrives wsX4_fail := goodIn_r _ [15, 1, 56, 57, 58, 59, 60, 61, 62, 63, 64] (by decide +kernel) (by decide +kernel)
set_option maxRecDepth 20000 in
theorem gX4_arrives_X4_fail : GoodIn wsX4_arrives (wsV RX4 46 RX4 yX4_fail wsX4_fail) := goodIn_app (goodIn_of _ (by decide +kernel)) ggX4_arrives_X4_fail
set_option maxRecDepth 20000 in
theorem ggX4_arrives_X4_sl : GoodIn wsX4_arrives wsX4_sl := goodIn_r _ [19, 20, 56, 57, 58, 59, 60, 61, 62, 63, 64] (by decide +kernel) (by decide +kernel)
set_option maxRecDepth 20000 in
theorem gX4_arrives_X4_sl : GoodIn wsX4_arrives (wsV RX4 57 RX4 yX4_sl wsX4_sl) := goodIn_app (goodIn_of _ (by decide +kernel)) ggX4_arrives_X4_sl
set_option maxRecDepth 20000 in
theorem ggX4_arrives_X4_kept : GoodIn wsX4_arrives wsX4_kept := goodIn_r _ [24, 25, 20, 26, 27, 28, 29, 30, 2, 56, 57, 58, 59, 60, 61, 62, 63, 64] (by decide +kernel) (by decide +kernel)
set_option maxRecDepth 20000 in
theorem gX4_arrives_X4_kept : GoodIn wsX4_arrives (wsV RX4 142 RX4 yX4_kept wsX4_kept) := goodIn_app (goodIn_of _ (by decide +kernel)) ggX4_arrives_X4_kept
set_option maxRecDepth 20000 in
theorem ggX4_arrives_X4_put : GoodIn wsX4_arrives wsX4_put := goodIn_r _ [34, 20, 56, 57, 58, 59, 60, 61, 62, 63, 64] (by decide +kernel) (by decide +kernel)
set_option maxRecDepth 20000 in
theorem gX4_arrives_X4_put : GoodIn wsX4_arrives (wsV RX4 50 RX4 yX4_put wsX4_put) := goodIn_app (goodIn_of _ (by decide +kernel)) ggX4_arrives_X4_put
set_option maxRecDepth 20000 in
theorem ggX4_arrives_X4_slide : GoodIn wsX4_arrives wsX4_slide := goodIn_r _ [38, 2, 39, 40, 41, 42, 16, 17, 18, 6, 19, 20, 43, 44, 45, 46, 47, 31, 32, 33, 34, 56, 57, 58, 59, 60, 61, 62, 63, 64] (by decide +kernel) (by decide +kernel)
set_option maxRecDepth 20000 in
theorem gX4_arrives_X4_slide : GoodIn wsX4_arrives (wsV RX4 115 RX4 yX4_slide wsX4_slide) := goodIn_app (goodIn_of _ (by decide +kernel)) ggX4_arrives_X4_slide
set_option maxRecDepth 20000 in
theorem ggX4_arrives_X4_bringBack : GoodIn wsX4_arrives wsX4_bringBack := goodIn_r _ [51, 20, 52, 53, 54, 55, 2, 56, 57, 58, 59, 60, 61, 62, 63, 64] (by decide +kernel) (by decide +kernel)
set_option maxRecDepth 20000 in
theorem gX4_arrives_X4_bringBack : GoodIn wsX4_arrives (wsV RX4 146 RX4 yX4_bringBack wsX4_bringBack) := goodIn_app (goodIn_of _ (by decide +kernel)) ggX4_arrives_X4_bringBack
theorem dX4_arrives_0 : decode cX4_arrives 0 = .ok (.aload_n 0, 1) := by decide +kernel
theorem dX4_arrives_1 : decode cX4_arrives 1 = .ok (.iconst 0, 1) := by decide +kernel
theorem dX4_arrives_2 : decode cX4_arrives 2 = .ok (.putfield 28, 3) := by decide +kernel
theorem dX4_arrives_5 : decode cX4_arrives 5 = .ok (.aload_n 0, 1) := by decide +kernel
theorem dX4_arrives_6 : decode cX4_arrives 6 = .ok (.iload_n 1, 1) := by decide +kernel
theorem dX4_arrives_7 : decode cX4_arrives 7 = .ok (.invokevirtual 54, 3) := by decide +kernel
theorem dX4_arrives_10 : decode cX4_arrives 10 = .ok (.ifCond .ne 9, 3) := by decide +kernel
theorem dX4_arrives_13 : decode cX4_arrives 13 = .ok (.aload_n 0, 1) := by decide +kernel
theorem dX4_arrives_14 : decode cX4_arrives 14 = .ok (.iconst 1, 1) := by decide +kernel
theorem dX4_arrives_15 : decode cX4_arrives 15 = .ok (.invokevirtual 46, 3) := by decide +kernel
theorem dX4_arrives_18 : decode cX4_arrives 18 = .ok (.ireturn, 1) := by decide +kernel
theorem dX4_arrives_19 : decode cX4_arrives 19 = .ok (.aload_n 0, 1) := by decide +kernel
theorem dX4_arrives_20 : decode cX4_arrives 20 = .ok (.iload_n 1, 1) := by decide +kernel
theorem dX4_arrives_21 : decode cX4_arrives 21 = .ok (.iconst 3, 1) := by decide +kernel
theorem dX4_arrives_22 : decode cX4_arrives 22 = .ok (.invokevirtual 57, 3) := by decide +kernel
theorem dX4_arrives_25 : decode cX4_arrives 25 = .ok (.iconst 2, 1) := by decide +kernel
theorem dX4_arrives_26 : decode cX4_arrives 26 = .ok (.if_icmp .ne 5, 3) := by decide +kernel
theorem dX4_arrives_29 : decode cX4_arrives 29 = .ok (.iconst 0, 1) := by decide +kernel
theorem dX4_arrives_30 : decode cX4_arrives 30 = .ok (.ireturn, 1) := by decide +kernel
theorem dX4_arrives_31 : decode cX4_arrives 31 = .ok (.aload_n 0, 1) := by decide +kernel
theorem dX4_arrives_32 : decode cX4_arrives 32 = .ok (.invokevirtual 142, 3) := by decide +kernel
theorem dX4_arrives_35 : decode cX4_arrives 35 = .ok (.astore_n 2, 1) := by decide +kernel
theorem dX4_arrives_36 : decode cX4_arrives 36 = .ok (.iconst 0, 1) := by decide +kernel
theorem dX4_arrives_37 : decode cX4_arrives 37 = .ok (.istore_n 3, 1) := by decide +kernel
theorem dX4_arrives_38 : decode cX4_arrives 38 = .ok (.aload_n 0, 1) := by decide +kernel
theorem dX4_arrives_39 : decode cX4_arrives 39 = .ok (.iload_n 1, 1) := by decide +kernel
theorem dX4_arrives_40 : decode cX4_arrives 40 = .ok (.iconst 3, 1) := by decide +kernel
theorem dX4_arrives_41 : decode cX4_arrives 41 = .ok (.iconst 1, 1) := by decide +kernel
theorem dX4_arrives_42 : decode cX4_arrives 42 = .ok (.invokevirtual 50, 3) := by decide +kernel
theorem dX4_arrives_45 : decode cX4_arrives 45 = .ok (.aload_n 0, 1) := by decide +kernel
theorem dX4_arrives_46 : decode cX4_arrives 46 = .ok (.iload_n 1, 1) := by decide +kernel
theorem dX4_arrives_47 : decode cX4_arrives 47 = .ok (.iconst 3, 1) := by decide +kernel
theorem dX4_arrives_48 : decode cX4_arrives 48 = .ok (.invokevirtual 57, 3) := by decide +kernel
theorem dX4_arrives_51 : decode cX4_arrives 51 = .ok (.iconst 1, 1) := by decide +kernel
theorem dX4_arrives_52 : decode cX4_arrives 52 = .ok (.if_icmp .ne 44, 3) := by decide +kernel
theorem dX4_arrives_55 : decode cX4_arrives 55 = .ok (.aload_n 0, 1) := by decide +kernel
theorem dX4_arrives_56 : decode cX4_arrives 56 = .ok (.iload_n 1, 1) := by decide +kernel
theorem dX4_arrives_57 : decode cX4_arrives 57 = .ok (.invokevirtual 115, 3) := by decide +kernel
theorem dX4_arrives_60 : decode cX4_arrives 60 = .ok (.aload_n 0, 1) := by decide +kernel
theorem dX4_arrives_61 : decode cX4_arrives 61 = .ok (.iload_n 1, 1) := by decide +kernel
theorem dX4_arrives_62 : decode cX4_arrives 62 = .ok (.iconst 1, 1) := by decide +kernel
theorem dX4_arrives_63 : decode cX4_arrives 63 = .ok (.invokevirtual 57, 3) := by decide +kernel
theorem dX4_arrives_66 : decode cX4_arrives 66 = .ok (.istore_n 3, 1) := by decide +kernel
theorem dX4_arrives_67 : decode cX4_arrives 67 = .ok (.aload_n 0, 1) := by decide +kernel
theorem dX4_arrives_68 : decode cX4_arrives 68 = .ok (.iload_n 1, 1) := by decide +kernel
theorem dX4_arrives_69 : decode cX4_arrives 69 = .ok (.iconst 2, 1) := by decide +kernel
theorem dX4_arrives_70 : decode cX4_arrives 70 = .ok (.invokevirtual 57, 3) := by decide +kernel
theorem dX4_arrives_73 : decode cX4_arrives 73 = .ok (.ifCond .ne 10, 3) := by decide +kernel
theorem dX4_arrives_76 : decode cX4_arrives 76 = .ok (.aload_n 0, 1) := by decide +kernel
theorem dX4_arrives_77 : decode cX4_arrives 77 = .ok (.iload_n 1, 1) := by decide +kernel
theorem dX4_arrives_78 : decode cX4_arrives 78 = .ok (.iconst 3, 1) := by decide +kernel
theorem dX4_arrives_79 : decode cX4_arrives 79 = .ok (.iconst 2, 1) := by decide +kernel
theorem dX4_arrives_80 : decode cX4_arrives 80 = .ok (.invokevirtual 50, 3) := by decide +kernel
theorem dX4_arrives_83 : decode cX4_arrives 83 = .ok (.aload_n 0, 1) := by decide +kernel
theorem dX4_arrives_84 : decode cX4_arrives 84 = .ok (.getfield 25, 3) := by decide +kernel
theorem dX4_arrives_87 : decode cX4_arrives 87 = .ok (.iconst 0, 1) := by decide +kernel
theorem dX4_arrives_88 : decode cX4_arrives 88 = .ok (.dup2, 1) := by decide +kernel
theorem dX4_arrives_89 : decode cX4_arrives 89 = .ok (.iaload, 1) := by decide +kernel
theorem dX4_arrives_90 : decode cX4_arrives 90 = .ok (.iconst 1, 1) := by decide +kernel
theorem dX4_arrives_91 : decode cX4_arrives 91 = .ok (.iadd, 1) := by decide +kernel
theorem dX4_arrives_92 : decode cX4_arrives 92 = .ok (.iastore, 1) := by decide +kernel
theorem dX4_arrives_93 : decode cX4_arrives 93 = .ok (.goto (-48), 3) := by decide +kernel
theorem dX4_arrives_96 : decode cX4_arrives 96 = .ok (.aload_n 0, 1) := by decide +kernel
theorem dX4_arrives_97 : decode cX4_arrives 97 = .ok (.aload_n 2, 1) := by decide +kernel
theorem dX4_arrives_98 : decode cX4_arrives 98 = .ok (.invokevirtual 146, 3) := by decide +kernel
theorem dX4_arrives_101 : decode cX4_arrives 101 = .ok (.iload_n 3, 1) := by decide +kernel
theorem dX4_arrives_102 : decode cX4_arrives 102 = .ok (.ireturn, 1) := by decide +kernel
set_option maxRecDepth 20000 in
theorem ggX4_advise_X4_isBoat : GoodIn wsX4_advise wsX4_isBoat := goodIn_r _ [6, 7, 8, 9, 5, 10, 34, 35, 36, 37, 38, 39, 40, 41, 42] (by decide +kernel) (by decide +kernel)
set_option maxRecDepth 20000 in
theorem gX4_advise_X4_isBoat : GoodIn wsX4_advise (wsV RX4 75 RX4 yX4_isBoat wsX4_isBoat) := goodIn_app (goodIn_of _ (by decide +kernel)) ggX4_advise_X4_isBoat
set_option maxRecDepth 20000 in
theorem ggX4_advise_X4_isIn : GoodIn wsX4_advise wsX4_isIn := goodIn_r _ [10] (by decide +kernel) (by decide +kernel)
set_option maxRecDepth 20000 in
theorem gX4_advise_X4_isIn : GoodIn wsX4_advise (va_wsS RX4 35 yX4_isIn wsX4_isIn) := goodIn_app (goodIn_of _ (by decide +kernel)) ggX4_advise_X4_isIn
set_option maxRecDepth 20000 in
theorem ggX4_advise_X4_fail : GoodIn wsX4_advise wsX4_fail := goodIn_r _ [14, 1, 34, 35, 36, 37, 38, 39, 40, 41, 42] (by decide +kernel) (by decide +kernel)
set_option maxRecDepth 20000 in
theorem gX4_advise_X4_fail : GoodIn wsX4_advise (wsV RX4 46 RX4 yX4_fail wsX4_fail) := goodIn_app (goodIn_of _ (by decide +kernel)) ggX4_advise_X4_fail
set_option maxRecDepth 20000 in
theorem ggX4_advise_X4_all : GoodIn wsX4_advise wsX4_all := goodIn_r _ [18, 19, 20, 21, 5, 22, 23, 34, 35, 36, 37, 38, 39, 40, 41, 42] (by decide +kernel) (by decide +kernel)
set_option maxRecDepth 20000 in
theorem gX4_advise_X4_all : GoodIn wsX4_advise (wsV RX4 78 RX4 yX4_all wsX4_all) := goodIn_app (goodIn_of _ (by decide +kernel)) ggX4_advise_X4_all
set_option maxRecDepth 20000 in
theorem ggX4_advise_X4_stowed : GoodIn wsX4_advise wsX4_stowed := goodIn_r _ [26] (by decide +kernel) (by decide +kernel)
set_option maxRecDepth 20000 in
theorem gX4_advise_X4_stowed : GoodIn wsX4_advise (va_wsS RX4 81 yX4_stowed wsX4_stowed) := goodIn_app (goodIn_of _ (by decide +kernel)) ggX4_advise_X4_stowed
set_option maxRecDepth 20000 in
theorem ggX4_advise_X4_bo : GoodIn wsX4_advise wsX4_bo := goodIn_r _ [22, 23, 34, 35, 36, 37, 38, 39, 40, 41, 42] (by decide +kernel) (by decide +kernel)
set_option maxRecDepth 20000 in
theorem gX4_advise_X4_bo : GoodIn wsX4_advise (wsV RX4 64 RX4 yX4_bo wsX4_bo) := goodIn_app (goodIn_of _ (by decide +kernel)) ggX4_advise_X4_bo
set_option maxRecDepth 20000 in
theorem ggX4_advise_X4_depth : GoodIn wsX4_advise wsX4_depth := goodIn_r _ [29, 30, 31, 32, 33] (by decide +kernel) (by decide +kernel)
set_option maxRecDepth 20000 in
theorem gX4_advise_X4_depth : GoodIn wsX4_advise (va_wsS RX4 72 yX4_depth wsX4_depth) := goodIn_app (goodIn_of _ (by decide +kernel)) ggX4_advise_X4_depth
theorem dX4_advise_0 : decode cX4_advise 0 = .ok (.aload_n 0, 1) := by decide +kernel
theorem dX4_advise_1 : decode cX4_advise 1 = .ok (.iconst 0, 1) := by decide +kernel
theorem dX4_advise_2 : decode cX4_advise 2 = .ok (.putfield 28, 3) := by decide +kernel
theorem dX4_advise_5 : decode cX4_advise 5 = .ok (.aload_n 0, 1) := by decide +kernel
theorem dX4_advise_6 : decode cX4_advise 6 = .ok (.iload_n 1, 1) := by decide +kernel
theorem dX4_advise_7 : decode cX4_advise 7 = .ok (.invokevirtual 75, 3) := by decide +kernel
theorem dX4_advise_10 : decode cX4_advise 10 = .ok (.ifCond .eq 12, 3) := by decide +kernel
theorem dX4_advise_13 : decode cX4_advise 13 = .ok (.iload_n 2, 1) := by decide +kernel
theorem dX4_advise_14 : decode cX4_advise 14 = .ok (.iconst 0, 1) := by decide +kernel
theorem dX4_advise_15 : decode cX4_advise 15 = .ok (.iconst 2, 1) := by decide +kernel
theorem dX4_advise_16 : decode cX4_advise 16 = .ok (.invokestatic 35, 3) := by decide +kernel
theorem dX4_advise_19 : decode cX4_advise 19 = .ok (.ifCond .ne 9, 3) := by decide +kernel
theorem dX4_advise_22 : decode cX4_advise 22 = .ok (.aload_n 0, 1) := by decide +kernel
theorem dX4_advise_23 : decode cX4_advise 23 = .ok (.iconst 1, 1) := by decide +kernel
theorem dX4_advise_24 : decode cX4_advise 24 = .ok (.invokevirtual 46, 3) := by decide +kernel
theorem dX4_advise_27 : decode cX4_advise 27 = .ok (.ireturn, 1) := by decide +kernel
theorem dX4_advise_28 : decode cX4_advise 28 = .ok (.aload_n 0, 1) := by decide +kernel
theorem dX4_advise_29 : decode cX4_advise 29 = .ok (.iload_n 1, 1) := by decide +kernel
theorem dX4_advise_30 : decode cX4_advise 30 = .ok (.invokevirtual 78, 3) := by decide +kernel
theorem dX4_advise_33 : decode cX4_advise 33 = .ok (.iload_n 2, 1) := by decide +kernel
theorem dX4_advise_34 : decode cX4_advise 34 = .ok (.invokestatic 81, 3) := by decide +kernel
theorem dX4_advise_37 : decode cX4_advise 37 = .ok (.iadd, 1) := by decide +kernel
theorem dX4_advise_38 : decode cX4_advise 38 = .ok (.aload_n 0, 1) := by decide +kernel
theorem dX4_advise_39 : decode cX4_advise 39 = .ok (.iload_n 1, 1) := by decide +kernel
theorem dX4_advise_40 : decode cX4_advise 40 = .ok (.iconst 0, 1) := by decide +kernel
theorem dX4_advise_41 : decode cX4_advise 41 = .ok (.invokevirtual 64, 3) := by decide +kernel
theorem dX4_advise_44 : decode cX4_advise 44 = .ok (.if_icmp .le 5, 3) := by decide +kernel
theorem dX4_advise_47 : decode cX4_advise 47 = .ok (.iconst 0, 1) := by decide +kernel
theorem dX4_advise_48 : decode cX4_advise 48 = .ok (.ireturn, 1) := by decide +kernel
theorem dX4_advise_49 : decode cX4_advise 49 = .ok (.aload_n 0, 1) := by decide +kernel
theorem dX4_advise_50 : decode cX4_advise 50 = .ok (.iload_n 1, 1) := by decide +kernel
theorem dX4_advise_51 : decode cX4_advise 51 = .ok (.iconst 1, 1) := by decide +kernel
theorem dX4_advise_52 : decode cX4_advise 52 = .ok (.invokevirtual 64, 3) := by decide +kernel
theorem dX4_advise_55 : decode cX4_advise 55 = .ok (.iload_n 2, 1) := by decide +kernel
theorem dX4_advise_56 : decode cX4_advise 56 = .ok (.invokestatic 81, 3) := by decide +kernel
theorem dX4_advise_59 : decode cX4_advise 59 = .ok (.iadd, 1) := by decide +kernel
theorem dX4_advise_60 : decode cX4_advise 60 = .ok (.aload_n 0, 1) := by decide +kernel
theorem dX4_advise_61 : decode cX4_advise 61 = .ok (.iload_n 1, 1) := by decide +kernel
theorem dX4_advise_62 : decode cX4_advise 62 = .ok (.iconst 2, 1) := by decide +kernel
theorem dX4_advise_63 : decode cX4_advise 63 = .ok (.invokevirtual 64, 3) := by decide +kernel
theorem dX4_advise_66 : decode cX4_advise 66 = .ok (.invokestatic 72, 3) := by decide +kernel
theorem dX4_advise_69 : decode cX4_advise 69 = .ok (.aload_n 0, 1) := by decide +kernel
theorem dX4_advise_70 : decode cX4_advise 70 = .ok (.iload_n 1, 1) := by decide +kernel
theorem dX4_advise_71 : decode cX4_advise 71 = .ok (.iconst 1, 1) := by decide +kernel
theorem dX4_advise_72 : decode cX4_advise 72 = .ok (.invokevirtual 64, 3) := by decide +kernel
theorem dX4_advise_75 : decode cX4_advise 75 = .ok (.aload_n 0, 1) := by decide +kernel
theorem dX4_advise_76 : decode cX4_advise 76 = .ok (.iload_n 1, 1) := by decide +kernel
theorem dX4_advise_77 : decode cX4_advise 77 = .ok (.iconst 2, 1) := by decide +kernel
theorem dX4_advise_78 : decode cX4_advise 78 = .ok (.invokevirtual 64, 3) := by decide +kernel
theorem dX4_advise_81 : decode cX4_advise 81 = .ok (.iload_n 2, 1) := by decide +kernel
theorem dX4_advise_82 : decode cX4_advise 82 = .ok (.invokestatic 81, 3) := by decide +kernel
theorem dX4_advise_85 : decode cX4_advise 85 = .ok (.iadd, 1) := by decide +kernel
theorem dX4_advise_86 : decode cX4_advise 86 = .ok (.invokestatic 72, 3) := by decide +kernel
theorem dX4_advise_89 : decode cX4_advise 89 = .ok (.if_icmp .gt 7, 3) := by decide +kernel
theorem dX4_advise_92 : decode cX4_advise 92 = .ok (.iconst 1, 1) := by decide +kernel
theorem dX4_advise_93 : decode cX4_advise 93 = .ok (.goto 4, 3) := by decide +kernel
theorem dX4_advise_96 : decode cX4_advise 96 = .ok (.iconst 2, 1) := by decide +kernel
theorem dX4_advise_97 : decode cX4_advise 97 = .ok (.ireturn, 1) := by decide +kernel
set_option maxRecDepth 20000 in
theorem ggX4_foresee_X4_isIn : GoodIn wsX4_foresee wsX4_isIn := goodIn_r _ [5] (by decide +kernel) (by decide +kernel)
set_option maxRecDepth 20000 in
theorem gX4_foresee_X4_isIn : GoodIn wsX4_foresee (va_wsS RX4 35 yX4_isIn wsX4_isIn) := goodIn_app (goodIn_of _ (by decide +kernel)) ggX4_foresee_X4_isIn
set_option maxRecDepth 20000 in
theorem ggX4_foresee_X4_fail : GoodIn wsX4_foresee wsX4_fail := goodIn_r _ [9, 1, 88, 89, 90, 91, 92, 93, 94, 95, 96] (by decide +kernel) (by decide +kernel)
set_option maxRecDepth 20000 in
theorem gX4_foresee_X4_fail : GoodIn wsX4_foresee (wsV RX4 46 RX4 yX4_fail wsX4_fail) := goodIn_app (goodIn_of _ (by decide +kernel)) ggX4_foresee_X4_fail
set_option maxRecDepth 20000 in
theorem ggX4_foresee_X4_kept : GoodIn wsX4_foresee wsX4_kept := goodIn_r _ [13, 14, 15, 16, 17, 18, 19, 20, 21, 88, 89, 90, 91, 92, 93, 94, 95, 96] (by decide +kernel) (by decide +kernel)
set_option maxRecDepth 20000 in
theorem gX4_foresee_X4_kept : GoodIn wsX4_foresee (wsV RX4 142 RX4 yX4_kept wsX4_kept) := goodIn_app (goodIn_of _ (by decide +kernel)) ggX4_foresee_X4_kept
set_option maxRecDepth 20000 in
theorem ggX4_foresee_X4_hoursOn : GoodIn wsX4_foresee wsX4_hoursOn := goodIn_r _ [25, 26, 27, 28, 4, 29, 21, 30, 31, 32, 33, 34, 35, 36, 37, 38, 15, 39, 40, 41, 42, 43, 44, 45, 46, 47, 48, 49, 50, 51, 52, 53, 54, 55, 56, 57, 58, 59, 60, 61, 62, 63, 64, 65, 66, 67, 68, 69, 88, 89, 90, 91, 92, 93, 94, 95, 96] (by decide +kernel) (by decide +kernel)
set_option maxRecDepth 20000 in
theorem gX4_foresee_X4_hoursOn : GoodIn wsX4_foresee (wsV RX4 128 RX4 yX4_hoursOn wsX4_hoursOn) := goodIn_app (goodIn_of _ (by decide +kernel)) ggX4_foresee_X4_hoursOn
set_option maxRecDepth 20000 in
theorem ggX4_foresee_X4_counted : GoodIn wsX4_foresee wsX4_counted := goodIn_r _ [73, 21, 34, 74, 75, 47, 48, 49, 4, 50, 51, 76, 77, 78, 79, 35, 36, 37, 38, 15, 26, 27, 28, 29, 88, 89, 90, 91, 92, 93, 94, 95, 96] (by decide +kernel) (by decide +kernel)
set_option maxRecDepth 20000 in
theorem gX4_foresee_X4_counted : GoodIn wsX4_foresee (wsV RX4 106 RX4 yX4_counted wsX4_counted) := goodIn_app (goodIn_of _ (by decide +kernel)) ggX4_foresee_X4_counted
set_option maxRecDepth 20000 in
theorem ggX4_foresee_X4_bringBack : GoodIn wsX4_foresee wsX4_bringBack := goodIn_r _ [83, 15, 84, 85, 86, 87, 21, 88, 89, 90, 91, 92, 93, 94, 95, 96] (by decide +kernel) (by decide +kernel)
set_option maxRecDepth 20000 in
theorem gX4_foresee_X4_bringBack : GoodIn wsX4_foresee (wsV RX4 146 RX4 yX4_bringBack wsX4_bringBack) := goodIn_app (goodIn_of _ (by decide +kernel)) ggX4_foresee_X4_bringBack
theorem dX4_foresee_0 : decode cX4_foresee 0 = .ok (.aload_n 0, 1) := by decide +kernel
theorem dX4_foresee_1 : decode cX4_foresee 1 = .ok (.iconst 0, 1) := by decide +kernel
theorem dX4_foresee_2 : decode cX4_foresee 2 = .ok (.putfield 28, 3) := by decide +kernel
theorem dX4_foresee_5 : decode cX4_foresee 5 = .ok (.iload_n 1, 1) := by decide +kernel
theorem dX4_foresee_6 : decode cX4_foresee 6 = .ok (.iconst 1, 1) := by decide +kernel
theorem dX4_foresee_7 : decode cX4_foresee 7 = .ok (.bipush 60, 2) := by decide +kernel
theorem dX4_foresee_9 : decode cX4_foresee 9 = .ok (.invokestatic 35, 3) := by decide +kernel
theorem dX4_foresee_12 : decode cX4_foresee 12 = .ok (.ifCond .ne 9, 3) := by decide +kernel
theorem dX4_foresee_15 : decode cX4_foresee 15 = .ok (.aload_n 0, 1) := by decide +kernel
theorem dX4_foresee_16 : decode cX4_foresee 16 = .ok (.iconst 1, 1) := by decide +kernel
theorem dX4_foresee_17 : decode cX4_foresee 17 = .ok (.invokevirtual 46, 3) := by decide +kernel
theorem dX4_foresee_20 : decode cX4_foresee 20 = .ok (.ireturn, 1) := by decide +kernel
theorem dX4_foresee_21 : decode cX4_foresee 21 = .ok (.iload_n 2, 1) := by decide +kernel
theorem dX4_foresee_22 : decode cX4_foresee 22 = .ok (.iconst 5, 1) := by decide +kernel
theorem dX4_foresee_23 : decode cX4_foresee 23 = .ok (.bipush 7, 2) := by decide +kernel
theorem dX4_foresee_25 : decode cX4_foresee 25 = .ok (.invokestatic 35, 3) := by decide +kernel
theorem dX4_foresee_28 : decode cX4_foresee 28 = .ok (.ifCond .ne 9, 3) := by decide +kernel
theorem dX4_foresee_31 : decode cX4_foresee 31 = .ok (.aload_n 0, 1) := by decide +kernel
theorem dX4_foresee_32 : decode cX4_foresee 32 = .ok (.iconst 2, 1) := by decide +kernel
theorem dX4_foresee_33 : decode cX4_foresee 33 = .ok (.invokevirtual 46, 3) := by decide +kernel
theorem dX4_foresee_36 : decode cX4_foresee 36 = .ok (.ireturn, 1) := by decide +kernel
theorem dX4_foresee_37 : decode cX4_foresee 37 = .ok (.aload_n 0, 1) := by decide +kernel
theorem dX4_foresee_38 : decode cX4_foresee 38 = .ok (.invokevirtual 142, 3) := by decide +kernel
theorem dX4_foresee_41 : decode cX4_foresee 41 = .ok (.astore_n 3, 1) := by decide +kernel
theorem dX4_foresee_42 : decode cX4_foresee 42 = .ok (.aload_n 0, 1) := by decide +kernel
theorem dX4_foresee_43 : decode cX4_foresee 43 = .ok (.iload_n 1, 1) := by decide +kernel
theorem dX4_foresee_44 : decode cX4_foresee 44 = .ok (.invokevirtual 128, 3) := by decide +kernel
theorem dX4_foresee_47 : decode cX4_foresee 47 = .ok (.pop, 1) := by decide +kernel
theorem dX4_foresee_48 : decode cX4_foresee 48 = .ok (.aload_n 0, 1) := by decide +kernel
theorem dX4_foresee_49 : decode cX4_foresee 49 = .ok (.iload_n 2, 1) := by decide +kernel
theorem dX4_foresee_50 : decode cX4_foresee 50 = .ok (.invokevirtual 106, 3) := by decide +kernel
theorem dX4_foresee_53 : decode cX4_foresee 53 = .ok (.istore 4, 2) := by decide +kernel
theorem dX4_foresee_55 : decode cX4_foresee 55 = .ok (.aload_n 0, 1) := by decide +kernel
theorem dX4_foresee_56 : decode cX4_foresee 56 = .ok (.aload_n 3, 1) := by decide +kernel
theorem dX4_foresee_57 : decode cX4_foresee 57 = .ok (.invokevirtual 146, 3) := by decide +kernel
theorem dX4_foresee_60 : decode cX4_foresee 60 = .ok (.iload 4, 2) := by decide +kernel
theorem dX4_foresee_62 : decode cX4_foresee 62 = .ok (.ireturn, 1) := by decide +kernel
set_option maxRecDepth 20000 in
theorem ggX4_mean_X4_sledgeTold : GoodIn wsX4_mean wsX4_sledgeTold := goodIn_r _ [7, 8, 9, 10, 6, 11, 12, 13, 14, 15, 20, 21, 22, 23, 24, 25, 26, 27, 28] (by decide +kernel) (by decide +kernel)
set_option maxRecDepth 20000 in
theorem gX4_mean_X4_sledgeTold : GoodIn wsX4_mean (wsV RX4 90 RX4 yX4_sledgeTold wsX4_sledgeTold) := goodIn_app (goodIn_of _ (by decide +kernel)) ggX4_mean_X4_sledgeTold
set_option maxRecDepth 20000 in
theorem ggX4_mean_X4_aboard : GoodIn wsX4_mean wsX4_aboard := goodIn_r _ [19, 2, 8, 9, 10, 6, 11, 12, 20, 21, 22, 23, 24, 25, 26, 27, 28] (by decide +kernel) (by decide +kernel)
set_option maxRecDepth 20000 in
theorem gX4_mean_X4_aboard : GoodIn wsX4_mean (wsV RX4 100 RX4 yX4_aboard wsX4_aboard) := goodIn_app (goodIn_of _ (by decide +kernel)) ggX4_mean_X4_aboard
theorem dX4_mean_0 : decode cX4_mean 0 = .ok (.aload_n 0, 1) := by decide +kernel
theorem dX4_mean_1 : decode cX4_mean 1 = .ok (.iconst 0, 1) := by decide +kernel
theorem dX4_mean_2 : decode cX4_mean 2 = .ok (.putfield 28, 3) := by decide +kernel
theorem dX4_mean_5 : decode cX4_mean 5 = .ok (.iconst 0, 1) := by decide +kernel
theorem dX4_mean_6 : decode cX4_mean 6 = .ok (.istore_n 1, 1) := by decide +kernel
theorem dX4_mean_7 : decode cX4_mean 7 = .ok (.iconst 0, 1) := by decide +kernel
theorem dX4_mean_8 : decode cX4_mean 8 = .ok (.istore_n 2, 1) := by decide +kernel
theorem dX4_mean_9 : decode cX4_mean 9 = .ok (.iload_n 2, 1) := by decide +kernel
theorem dX4_mean_10 : decode cX4_mean 10 = .ok (.aload_n 0, 1) := by decide +kernel
theorem dX4_mean_11 : decode cX4_mean 11 = .ok (.getfield 32, 3) := by decide +kernel
theorem dX4_mean_14 : decode cX4_mean 14 = .ok (.if_icmp .ge 18, 3) := by decide +kernel
theorem dX4_mean_17 : decode cX4_mean 17 = .ok (.iload_n 1, 1) := by decide +kernel
theorem dX4_mean_18 : decode cX4_mean 18 = .ok (.aload_n 0, 1) := by decide +kernel
theorem dX4_mean_19 : decode cX4_mean 19 = .ok (.iload_n 2, 1) := by decide +kernel
theorem dX4_mean_20 : decode cX4_mean 20 = .ok (.iconst 4, 1) := by decide +kernel
theorem dX4_mean_21 : decode cX4_mean 21 = .ok (.invokevirtual 90, 3) := by decide +kernel
theorem dX4_mean_24 : decode cX4_mean 24 = .ok (.iadd, 1) := by decide +kernel
theorem dX4_mean_25 : decode cX4_mean 25 = .ok (.istore_n 1, 1) := by decide +kernel
theorem dX4_mean_26 : decode cX4_mean 26 = .ok (.iinc 2 1, 3) := by decide +kernel
theorem dX4_mean_29 : decode cX4_mean 29 = .ok (.goto (-20), 3) := by decide +kernel
theorem dX4_mean_32 : decode cX4_mean 32 = .ok (.aload_n 0, 1) := by decide +kernel
theorem dX4_mean_33 : decode cX4_mean 33 = .ok (.invokevirtual 100, 3) := by decide +kernel
theorem dX4_mean_36 : decode cX4_mean 36 = .ok (.ifCond .ne 7, 3) := by decide +kernel
theorem dX4_mean_39 : decode cX4_mean 39 = .ok (.dconst 0, 1) := by decide +kernel
theorem dX4_mean_40 : decode cX4_mean 40 = .ok (.goto 11, 3) := by decide +kernel
theorem dX4_mean_43 : decode cX4_mean 43 = .ok (.iload_n 1, 1) := by decide +kernel
theorem dX4_mean_44 : decode cX4_mean 44 = .ok (.i2d, 1) := by decide +kernel
theorem dX4_mean_45 : decode cX4_mean 45 = .ok (.aload_n 0, 1) := by decide +kernel
theorem dX4_mean_46 : decode cX4_mean 46 = .ok (.invokevirtual 100, 3) := by decide +kernel
theorem dX4_mean_49 : decode cX4_mean 49 = .ok (.i2d, 1) := by decide +kernel
theorem dX4_mean_50 : decode cX4_mean 50 = .ok (.ddiv, 1) := by decide +kernel
theorem dX4_mean_51 : decode cX4_mean 51 = .ok (.dreturn, 1) := by decide +kernel
set_option maxRecDepth 20000 in
theorem ggX4_digest_X4_counted : GoodIn wsX4_digest wsX4_counted := goodIn_r _ [12, 7, 5, 6, 13, 14, 15, 16, 11, 17, 4, 18, 19, 20, 21, 22, 23, 24, 25, 26, 27, 28, 29, 30, 70, 71, 72, 73, 74, 75, 76, 77, 78] (by decide +kernel) (by decide +kernel)
set_option maxRecDepth 20000 in
theorem gX4_digest_X4_counted : GoodIn wsX4_digest (wsV RX4 106 RX4 yX4_counted wsX4_counted) := goodIn_app (goodIn_of _ (by decide +kernel)) ggX4_digest_X4_counted
set_option maxRecDepth 20000 in
theorem ggX4_digest_X4_layerTold : GoodIn wsX4_digest wsX4_layerTold := goodIn_r _ [34, 13, 35, 36, 37, 11, 38, 70, 71, 72, 73, 74, 75, 76, 77, 78] (by decide +kernel) (by decide +kernel)
set_option maxRecDepth 20000 in
theorem gX4_digest_X4_layerTold : GoodIn wsX4_digest (wsV RX4 87 RX4 yX4_layerTold wsX4_layerTold) := goodIn_app (goodIn_of _ (by decide +kernel)) ggX4_digest_X4_layerTold
set_option maxRecDepth 20000 in
theorem ggX4_digest_X4_sledgeTold : GoodIn wsX4_digest wsX4_sledgeTold := goodIn_r _ [42, 22, 23, 24, 11, 25, 26, 36, 37, 38, 70, 71, 72, 73, 74, 75, 76, 77, 78] (by decide +kernel) (by decide +kernel)
set_option maxRecDepth 20000 in
theorem gX4_digest_X4_sledgeTold : GoodIn wsX4_digest (wsV RX4 90 RX4 yX4_sledgeTold wsX4_sledgeTold) := goodIn_app (goodIn_of _ (by decide +kernel)) ggX4_digest_X4_sledgeTold
set_option maxRecDepth 20000 in
theorem ggX4_digest_X4_sl : GoodIn wsX4_digest wsX4_sl := goodIn_r _ [25, 26, 70, 71, 72, 73, 74, 75, 76, 77, 78] (by decide +kernel) (by decide +kernel)
set_option maxRecDepth 20000 in
theorem gX4_digest_X4_sl : GoodIn wsX4_digest (wsV RX4 57 RX4 yX4_sl wsX4_sl) := goodIn_app (goodIn_of _ (by decide +kernel)) ggX4_digest_X4_sl
set_option maxRecDepth 20000 in
theorem ggX4_digest_X4_boatTold : GoodIn wsX4_digest wsX4_boatTold := goodIn_r _ [46, 47, 48, 49, 11, 50, 51, 52, 53, 54, 55, 56, 57, 58, 59, 60, 61, 62, 63, 64, 65, 66, 67, 68, 69, 70, 71, 72, 73, 74, 75, 76, 77, 78] (by decide +kernel) (by decide +kernel)
set_option maxRecDepth 20000 in
theorem gX4_digest_X4_boatTold : GoodIn wsX4_digest (wsV RX4 93 RX4 yX4_boatTold wsX4_boatTold) := goodIn_app (goodIn_of _ (by decide +kernel)) ggX4_digest_X4_boatTold
theorem dX4_digest_0 : decode cX4_digest 0 = .ok (.aload_n 0, 1) := by decide +kernel
theorem dX4_digest_1 : decode cX4_digest 1 = .ok (.iconst 0, 1) := by decide +kernel
theorem dX4_digest_2 : decode cX4_digest 2 = .ok (.putfield 28, 3) := by decide +kernel
theorem dX4_digest_5 : decode cX4_digest 5 = .ok (.ldc2_w 150, 3) := by decide +kernel
theorem dX4_digest_8 : decode cX4_digest 8 = .ok (.lstore_n 1, 1) := by decide +kernel
theorem dX4_digest_9 : decode cX4_digest 9 = .ok (.iconst 0, 1) := by decide +kernel
theorem dX4_digest_10 : decode cX4_digest 10 = .ok (.istore_n 3, 1) := by decide +kernel
theorem dX4_digest_11 : decode cX4_digest 11 = .ok (.iload_n 3, 1) := by decide +kernel
theorem dX4_digest_12 : decode cX4_digest 12 = .ok (.bipush 9, 2) := by decide +kernel
theorem dX4_digest_14 : decode cX4_digest 14 = .ok (.if_icmp .ge 22, 3) := by decide +kernel
theorem dX4_digest_17 : decode cX4_digest 17 = .ok (.lload_n 1, 1) := by decide +kernel
theorem dX4_digest_18 : decode cX4_digest 18 = .ok (.ldc2_w 152, 3) := by decide +kernel
theorem dX4_digest_21 : decode cX4_digest 21 = .ok (.lmul, 1) := by decide +kernel
theorem dX4_digest_22 : decode cX4_digest 22 = .ok (.aload_n 0, 1) := by decide +kernel
theorem dX4_digest_23 : decode cX4_digest 23 = .ok (.iload_n 3, 1) := by decide +kernel
theorem dX4_digest_24 : decode cX4_digest 24 = .ok (.invokevirtual 106, 3) := by decide +kernel
theorem dX4_digest_27 : decode cX4_digest 27 = .ok (.i2l, 1) := by decide +kernel
theorem dX4_digest_28 : decode cX4_digest 28 = .ok (.ladd, 1) := by decide +kernel
theorem dX4_digest_29 : decode cX4_digest 29 = .ok (.lstore_n 1, 1) := by decide +kernel
theorem dX4_digest_30 : decode cX4_digest 30 = .ok (.iinc 3 1, 3) := by decide +kernel
theorem dX4_digest_33 : decode cX4_digest 33 = .ok (.goto (-22), 3) := by decide +kernel
theorem dX4_digest_36 : decode cX4_digest 36 = .ok (.aload_n 0, 1) := by decide +kernel
theorem dX4_digest_37 : decode cX4_digest 37 = .ok (.getfield 16, 3) := by decide +kernel
theorem dX4_digest_40 : decode cX4_digest 40 = .ok (.astore_n 3, 1) := by decide +kernel
theorem dX4_digest_41 : decode cX4_digest 41 = .ok (.aload_n 3, 1) := by decide +kernel
theorem dX4_digest_42 : decode cX4_digest 42 = .ok (.arraylength, 1) := by decide +kernel
theorem dX4_digest_43 : decode cX4_digest 43 = .ok (.istore 4, 2) := by decide +kernel
theorem dX4_digest_45 : decode cX4_digest 45 = .ok (.iconst 0, 1) := by decide +kernel
theorem dX4_digest_46 : decode cX4_digest 46 = .ok (.istore 5, 2) := by decide +kernel
theorem dX4_digest_48 : decode cX4_digest 48 = .ok (.iload 5, 2) := by decide +kernel
theorem dX4_digest_50 : decode cX4_digest 50 = .ok (.iload 4, 2) := by decide +kernel
theorem dX4_digest_52 : decode cX4_digest 52 = .ok (.if_icmp .ge 25, 3) := by decide +kernel
theorem dX4_digest_55 : decode cX4_digest 55 = .ok (.aload_n 3, 1) := by decide +kernel
theorem dX4_digest_56 : decode cX4_digest 56 = .ok (.iload 5, 2) := by decide +kernel
theorem dX4_digest_58 : decode cX4_digest 58 = .ok (.iaload, 1) := by decide +kernel
theorem dX4_digest_59 : decode cX4_digest 59 = .ok (.istore 6, 2) := by decide +kernel
theorem dX4_digest_61 : decode cX4_digest 61 = .ok (.lload_n 1, 1) := by decide +kernel
theorem dX4_digest_62 : decode cX4_digest 62 = .ok (.ldc2_w 152, 3) := by decide +kernel
theorem dX4_digest_65 : decode cX4_digest 65 = .ok (.lmul, 1) := by decide +kernel
theorem dX4_digest_66 : decode cX4_digest 66 = .ok (.iload 6, 2) := by decide +kernel
theorem dX4_digest_68 : decode cX4_digest 68 = .ok (.i2l, 1) := by decide +kernel
theorem dX4_digest_69 : decode cX4_digest 69 = .ok (.ladd, 1) := by decide +kernel
theorem dX4_digest_70 : decode cX4_digest 70 = .ok (.lstore_n 1, 1) := by decide +kernel
theorem dX4_digest_71 : decode cX4_digest 71 = .ok (.iinc 5 1, 3) := by decide +kernel
theorem dX4_digest_74 : decode cX4_digest 74 = .ok (.goto (-26), 3) := by decide +kernel
theorem dX4_digest_77 : decode cX4_digest 77 = .ok (.iconst 0, 1) := by decide +kernel
theorem dX4_digest_78 : decode cX4_digest 78 = .ok (.istore_n 3, 1) := by decide +kernel
theorem dX4_digest_79 : decode cX4_digest 79 = .ok (.iload_n 3, 1) := by decide +kernel
theorem dX4_digest_80 : decode cX4_digest 80 = .ok (.iconst 5, 1) := by decide +kernel
theorem dX4_digest_81 : decode cX4_digest 81 = .ok (.if_icmp .ge 39, 3) := by decide +kernel
theorem dX4_digest_84 : decode cX4_digest 84 = .ok (.iconst 0, 1) := by decide +kernel
theorem dX4_digest_85 : decode cX4_digest 85 = .ok (.istore 4, 2) := by decide +kernel
theorem dX4_digest_87 : decode cX4_digest 87 = .ok (.iload 4, 2) := by decide +kernel
theorem dX4_digest_89 : decode cX4_digest 89 = .ok (.iconst 4, 1) := by decide +kernel
theorem dX4_digest_90 : decode cX4_digest 90 = .ok (.if_icmp .ge 24, 3) := by decide +kernel
theorem dX4_digest_93 : decode cX4_digest 93 = .ok (.lload_n 1, 1) := by decide +kernel
theorem dX4_digest_94 : decode cX4_digest 94 = .ok (.ldc2_w 152, 3) := by decide +kernel
theorem dX4_digest_97 : decode cX4_digest 97 = .ok (.lmul, 1) := by decide +kernel
theorem dX4_digest_98 : decode cX4_digest 98 = .ok (.aload_n 0, 1) := by decide +kernel
theorem dX4_digest_99 : decode cX4_digest 99 = .ok (.iload_n 3, 1) := by decide +kernel
theorem dX4_digest_100 : decode cX4_digest 100 = .ok (.iload 4, 2) := by decide +kernel
theorem dX4_digest_102 : decode cX4_digest 102 = .ok (.invokevirtual 87, 3) := by decide +kernel
theorem dX4_digest_105 : decode cX4_digest 105 = .ok (.i2l, 1) := by decide +kernel
theorem dX4_digest_106 : decode cX4_digest 106 = .ok (.ladd, 1) := by decide +kernel
theorem dX4_digest_107 : decode cX4_digest 107 = .ok (.lstore_n 1, 1) := by decide +kernel
theorem dX4_digest_108 : decode cX4_digest 108 = .ok (.iinc 4 1, 3) := by decide +kernel
theorem dX4_digest_111 : decode cX4_digest 111 = .ok (.goto (-24), 3) := by decide +kernel
theorem dX4_digest_114 : decode cX4_digest 114 = .ok (.iinc 3 1, 3) := by decide +kernel
theorem dX4_digest_117 : decode cX4_digest 117 = .ok (.goto (-38), 3) := by decide +kernel
theorem dX4_digest_120 : decode cX4_digest 120 = .ok (.iconst 0, 1) := by decide +kernel
theorem dX4_digest_121 : decode cX4_digest 121 = .ok (.istore_n 3, 1) := by decide +kernel
theorem dX4_digest_122 : decode cX4_digest 122 = .ok (.iload_n 3, 1) := by decide +kernel
theorem dX4_digest_123 : decode cX4_digest 123 = .ok (.aload_n 0, 1) := by decide +kernel
theorem dX4_digest_124 : decode cX4_digest 124 = .ok (.getfield 32, 3) := by decide +kernel
theorem dX4_digest_127 : decode cX4_digest 127 = .ok (.if_icmp .ge 77, 3) := by decide +kernel
theorem dX4_digest_130 : decode cX4_digest 130 = .ok (.iconst 0, 1) := by decide +kernel
theorem dX4_digest_131 : decode cX4_digest 131 = .ok (.istore 4, 2) := by decide +kernel
theorem dX4_digest_133 : decode cX4_digest 133 = .ok (.iload 4, 2) := by decide +kernel
theorem dX4_digest_135 : decode cX4_digest 135 = .ok (.bipush 6, 2) := by decide +kernel
theorem dX4_digest_137 : decode cX4_digest 137 = .ok (.if_icmp .ge 24, 3) := by decide +kernel
theorem dX4_digest_140 : decode cX4_digest 140 = .ok (.lload_n 1, 1) := by decide +kernel
theorem dX4_digest_141 : decode cX4_digest 141 = .ok (.ldc2_w 152, 3) := by decide +kernel
theorem dX4_digest_144 : decode cX4_digest 144 = .ok (.lmul, 1) := by decide +kernel
theorem dX4_digest_145 : decode cX4_digest 145 = .ok (.aload_n 0, 1) := by decide +kernel
theorem dX4_digest_146 : decode cX4_digest 146 = .ok (.iload_n 3, 1) := by decide +kernel
theorem dX4_digest_147 : decode cX4_digest 147 = .ok (.iload 4, 2) := by decide +kernel
theorem dX4_digest_149 : decode cX4_digest 149 = .ok (.invokevirtual 90, 3) := by decide +kernel
theorem dX4_digest_152 : decode cX4_digest 152 = .ok (.i2l, 1) := by decide +kernel
theorem dX4_digest_153 : decode cX4_digest 153 = .ok (.ladd, 1) := by decide +kernel
theorem dX4_digest_154 : decode cX4_digest 154 = .ok (.lstore_n 1, 1) := by decide +kernel
theorem dX4_digest_155 : decode cX4_digest 155 = .ok (.iinc 4 1, 3) := by decide +kernel
theorem dX4_digest_158 : decode cX4_digest 158 = .ok (.goto (-25), 3) := by decide +kernel
theorem dX4_digest_161 : decode cX4_digest 161 = .ok (.iconst 0, 1) := by decide +kernel
theorem dX4_digest_162 : decode cX4_digest 162 = .ok (.istore 4, 2) := by decide +kernel
theorem dX4_digest_164 : decode cX4_digest 164 = .ok (.iload 4, 2) := by decide +kernel
theorem dX4_digest_166 : decode cX4_digest 166 = .ok (.aload_n 0, 1) := by decide +kernel
theorem dX4_digest_167 : decode cX4_digest 167 = .ok (.iload_n 3, 1) := by decide +kernel
theorem dX4_digest_168 : decode cX4_digest 168 = .ok (.iconst 1, 1) := by decide +kernel
theorem dX4_digest_169 : decode cX4_digest 169 = .ok (.invokevirtual 57, 3) := by decide +kernel
theorem dX4_digest_172 : decode cX4_digest 172 = .ok (.if_icmp .ge 26, 3) := by decide +kernel
theorem dX4_digest_175 : decode cX4_digest 175 = .ok (.lload_n 1, 1) := by decide +kernel
theorem dX4_digest_176 : decode cX4_digest 176 = .ok (.ldc2_w 152, 3) := by decide +kernel
theorem dX4_digest_179 : decode cX4_digest 179 = .ok (.lmul, 1) := by decide +kernel
theorem dX4_digest_180 : decode cX4_digest 180 = .ok (.aload_n 0, 1) := by decide +kernel
theorem dX4_digest_181 : decode cX4_digest 181 = .ok (.iload_n 3, 1) := by decide +kernel
theorem dX4_digest_182 : decode cX4_digest 182 = .ok (.iconst 4, 1) := by decide +kernel
theorem dX4_digest_183 : decode cX4_digest 183 = .ok (.iload 4, 2) := by decide +kernel
theorem dX4_digest_185 : decode cX4_digest 185 = .ok (.iadd, 1) := by decide +kernel
theorem dX4_digest_186 : decode cX4_digest 186 = .ok (.invokevirtual 57, 3) := by decide +kernel
theorem dX4_digest_189 : decode cX4_digest 189 = .ok (.i2l, 1) := by decide +kernel
theorem dX4_digest_190 : decode cX4_digest 190 = .ok (.ladd, 1) := by decide +kernel
theorem dX4_digest_191 : decode cX4_digest 191 = .ok (.lstore_n 1, 1) := by decide +kernel
theorem dX4_digest_192 : decode cX4_digest 192 = .ok (.iinc 4 1, 3) := by decide +kernel
theorem dX4_digest_195 : decode cX4_digest 195 = .ok (.goto (-31), 3) := by decide +kernel
theorem dX4_digest_198 : decode cX4_digest 198 = .ok (.iinc 3 1, 3) := by decide +kernel
theorem dX4_digest_201 : decode cX4_digest 201 = .ok (.goto (-79), 3) := by decide +kernel
theorem dX4_digest_204 : decode cX4_digest 204 = .ok (.iconst 0, 1) := by decide +kernel
theorem dX4_digest_205 : decode cX4_digest 205 = .ok (.istore_n 3, 1) := by decide +kernel
theorem dX4_digest_206 : decode cX4_digest 206 = .ok (.iload_n 3, 1) := by decide +kernel
theorem dX4_digest_207 : decode cX4_digest 207 = .ok (.aload_n 0, 1) := by decide +kernel
theorem dX4_digest_208 : decode cX4_digest 208 = .ok (.getfield 39, 3) := by decide +kernel
theorem dX4_digest_211 : decode cX4_digest 211 = .ok (.if_icmp .ge 40, 3) := by decide +kernel
theorem dX4_digest_214 : decode cX4_digest 214 = .ok (.iconst 0, 1) := by decide +kernel
theorem dX4_digest_215 : decode cX4_digest 215 = .ok (.istore 4, 2) := by decide +kernel
theorem dX4_digest_217 : decode cX4_digest 217 = .ok (.iload 4, 2) := by decide +kernel
theorem dX4_digest_219 : decode cX4_digest 219 = .ok (.bipush 7, 2) := by decide +kernel
theorem dX4_digest_221 : decode cX4_digest 221 = .ok (.if_icmp .ge 24, 3) := by decide +kernel
theorem dX4_digest_224 : decode cX4_digest 224 = .ok (.lload_n 1, 1) := by decide +kernel
theorem dX4_digest_225 : decode cX4_digest 225 = .ok (.ldc2_w 152, 3) := by decide +kernel
theorem dX4_digest_228 : decode cX4_digest 228 = .ok (.lmul, 1) := by decide +kernel
theorem dX4_digest_229 : decode cX4_digest 229 = .ok (.aload_n 0, 1) := by decide +kernel
theorem dX4_digest_230 : decode cX4_digest 230 = .ok (.iload_n 3, 1) := by decide +kernel
theorem dX4_digest_231 : decode cX4_digest 231 = .ok (.iload 4, 2) := by decide +kernel
theorem dX4_digest_233 : decode cX4_digest 233 = .ok (.invokevirtual 93, 3) := by decide +kernel
theorem dX4_digest_236 : decode cX4_digest 236 = .ok (.i2l, 1) := by decide +kernel
theorem dX4_digest_237 : decode cX4_digest 237 = .ok (.ladd, 1) := by decide +kernel
theorem dX4_digest_238 : decode cX4_digest 238 = .ok (.lstore_n 1, 1) := by decide +kernel
theorem dX4_digest_239 : decode cX4_digest 239 = .ok (.iinc 4 1, 3) := by decide +kernel
theorem dX4_digest_242 : decode cX4_digest 242 = .ok (.goto (-25), 3) := by decide +kernel
theorem dX4_digest_245 : decode cX4_digest 245 = .ok (.iinc 3 1, 3) := by decide +kernel
theorem dX4_digest_248 : decode cX4_digest 248 = .ok (.goto (-42), 3) := by decide +kernel
theorem dX4_digest_251 : decode cX4_digest 251 = .ok (.iconst 0, 1) := by decide +kernel
theorem dX4_digest_252 : decode cX4_digest 252 = .ok (.istore_n 3, 1) := by decide +kernel
theorem dX4_digest_253 : decode cX4_digest 253 = .ok (.iload_n 3, 1) := by decide +kernel
theorem dX4_digest_254 : decode cX4_digest 254 = .ok (.iconst 3, 1) := by decide +kernel
theorem dX4_digest_255 : decode cX4_digest 255 = .ok (.if_icmp .ge 25, 3) := by decide +kernel
theorem dX4_digest_258 : decode cX4_digest 258 = .ok (.lload_n 1, 1) := by decide +kernel
theorem dX4_digest_259 : decode cX4_digest 259 = .ok (.ldc2_w 152, 3) := by decide +kernel
theorem dX4_digest_262 : decode cX4_digest 262 = .ok (.lmul, 1) := by decide +kernel
theorem dX4_digest_263 : decode cX4_digest 263 = .ok (.aload_n 0, 1) := by decide +kernel
theorem dX4_digest_264 : decode cX4_digest 264 = .ok (.getfield 25, 3) := by decide +kernel
theorem dX4_digest_267 : decode cX4_digest 267 = .ok (.iconst 3, 1) := by decide +kernel
theorem dX4_digest_268 : decode cX4_digest 268 = .ok (.iload_n 3, 1) := by decide +kernel
theorem dX4_digest_269 : decode cX4_digest 269 = .ok (.iadd, 1) := by decide +kernel
theorem dX4_digest_270 : decode cX4_digest 270 = .ok (.iaload, 1) := by decide +kernel
theorem dX4_digest_271 : decode cX4_digest 271 = .ok (.i2l, 1) := by decide +kernel
theorem dX4_digest_272 : decode cX4_digest 272 = .ok (.ladd, 1) := by decide +kernel
theorem dX4_digest_273 : decode cX4_digest 273 = .ok (.lstore_n 1, 1) := by decide +kernel
theorem dX4_digest_274 : decode cX4_digest 274 = .ok (.iinc 3 1, 3) := by decide +kernel
theorem dX4_digest_277 : decode cX4_digest 277 = .ok (.goto (-24), 3) := by decide +kernel
theorem dX4_digest_280 : decode cX4_digest 280 = .ok (.lload_n 1, 1) := by decide +kernel
theorem dX4_digest_281 : decode cX4_digest 281 = .ok (.lreturn, 1) := by decide +kernel
theorem dJ9_floorMod_7cf53_0 : decode cJ9_floorMod_7cf53 0 = .ok (.iload_n 0, 1) := by decide +kernel
theorem dJ9_floorMod_7cf53_1 : decode cJ9_floorMod_7cf53 1 = .ok (.iload_n 1, 1) := by decide +kernel
theorem dJ9_floorMod_7cf53_2 : decode cJ9_floorMod_7cf53 2 = .ok (.irem, 1) := by decide +kernel
theorem dJ9_floorMod_7cf53_3 : decode cJ9_floorMod_7cf53 3 = .ok (.istore_n 2, 1) := by decide +kernel
theorem dJ9_floorMod_7cf53_4 : decode cJ9_floorMod_7cf53 4 = .ok (.iload_n 0, 1) := by decide +kernel
theorem dJ9_floorMod_7cf53_5 : decode cJ9_floorMod_7cf53 5 = .ok (.iload_n 1, 1) := by decide +kernel
theorem dJ9_floorMod_7cf53_6 : decode cJ9_floorMod_7cf53 6 = .ok (.ixor, 1) := by decide +kernel
theorem dJ9_floorMod_7cf53_7 : decode cJ9_floorMod_7cf53 7 = .ok (.ifCond .ge 11, 3) := by decide +kernel
theorem dJ9_floorMod_7cf53_10 : decode cJ9_floorMod_7cf53 10 = .ok (.iload_n 2, 1) := by decide +kernel
theorem dJ9_floorMod_7cf53_11 : decode cJ9_floorMod_7cf53 11 = .ok (.ifCond .eq 7, 3) := by decide +kernel
theorem dJ9_floorMod_7cf53_14 : decode cJ9_floorMod_7cf53 14 = .ok (.iload_n 2, 1) := by decide +kernel
theorem dJ9_floorMod_7cf53_15 : decode cJ9_floorMod_7cf53 15 = .ok (.iload_n 1, 1) := by decide +kernel
theorem dJ9_floorMod_7cf53_16 : decode cJ9_floorMod_7cf53 16 = .ok (.iadd, 1) := by decide +kernel
theorem dJ9_floorMod_7cf53_17 : decode cJ9_floorMod_7cf53 17 = .ok (.ireturn, 1) := by decide +kernel
theorem dJ9_floorMod_7cf53_18 : decode cJ9_floorMod_7cf53 18 = .ok (.iload_n 2, 1) := by decide +kernel
theorem dJ9_floorMod_7cf53_19 : decode cJ9_floorMod_7cf53 19 = .ok (.ireturn, 1) := by decide +kernel
theorem dJ9_abs_0f7a4_0 : decode cJ9_abs_0f7a4 0 = .ok (.iload_n 0, 1) := by decide +kernel
theorem dJ9_abs_0f7a4_1 : decode cJ9_abs_0f7a4 1 = .ok (.ifCond .ge 8, 3) := by decide +kernel
theorem dJ9_abs_0f7a4_4 : decode cJ9_abs_0f7a4 4 = .ok (.iload_n 0, 1) := by decide +kernel
theorem dJ9_abs_0f7a4_5 : decode cJ9_abs_0f7a4 5 = .ok (.ineg, 1) := by decide +kernel
theorem dJ9_abs_0f7a4_6 : decode cJ9_abs_0f7a4 6 = .ok (.goto 4, 3) := by decide +kernel
theorem dJ9_abs_0f7a4_9 : decode cJ9_abs_0f7a4 9 = .ok (.iload_n 0, 1) := by decide +kernel
theorem dJ9_abs_0f7a4_10 : decode cJ9_abs_0f7a4 10 = .ok (.ireturn, 1) := by decide +kernel
theorem dJ9_max_7cf53_0 : decode cJ9_max_7cf53 0 = .ok (.iload_n 0, 1) := by decide +kernel
theorem dJ9_max_7cf53_1 : decode cJ9_max_7cf53 1 = .ok (.iload_n 1, 1) := by decide +kernel
theorem dJ9_max_7cf53_2 : decode cJ9_max_7cf53 2 = .ok (.if_icmp .lt 7, 3) := by decide +kernel
theorem dJ9_max_7cf53_5 : decode cJ9_max_7cf53 5 = .ok (.iload_n 0, 1) := by decide +kernel
theorem dJ9_max_7cf53_6 : decode cJ9_max_7cf53 6 = .ok (.goto 4, 3) := by decide +kernel
theorem dJ9_max_7cf53_9 : decode cJ9_max_7cf53 9 = .ok (.iload_n 1, 1) := by decide +kernel
theorem dJ9_max_7cf53_10 : decode cJ9_max_7cf53 10 = .ok (.ireturn, 1) := by decide +kernel
theorem dJ9_min_7cf53_0 : decode cJ9_min_7cf53 0 = .ok (.iload_n 0, 1) := by decide +kernel
theorem dJ9_min_7cf53_1 : decode cJ9_min_7cf53 1 = .ok (.iload_n 1, 1) := by decide +kernel
theorem dJ9_min_7cf53_2 : decode cJ9_min_7cf53 2 = .ok (.if_icmp .gt 7, 3) := by decide +kernel
theorem dJ9_min_7cf53_5 : decode cJ9_min_7cf53 5 = .ok (.iload_n 0, 1) := by decide +kernel
theorem dJ9_min_7cf53_6 : decode cJ9_min_7cf53 6 = .ok (.goto 4, 3) := by decide +kernel
theorem dJ9_min_7cf53_9 : decode cJ9_min_7cf53 9 = .ok (.iload_n 1, 1) := by decide +kernel
theorem dJ9_min_7cf53_10 : decode cJ9_min_7cf53 10 = .ok (.ireturn, 1) := by decide +kernel
end
section
set_option maxRecDepth 20000 in
theorem ggL_set_X3_set : GoodIn wsL_set wsX3_set := goodIn_ca (goodIn_ca (goodIn_r _ [7, 8, 9, 10, 11, 12, 13, 14, 15, 6, 16, 17, 18, 19, 20, 21, 22, 23, 24, 25, 26, 27, 28, 29, 30, 31] (by decide +kernel) (by decide +kernel)) (goodIn_sub (fun _ h => List.mem_cons_of_mem _ (List.mem_append_left _ (List.mem_append_right _ h))) (by decide +kernel))) (goodIn_sub (fun _ h => List.mem_cons_of_mem _ (List.mem_append_right _ h)) (by decide +kernel))
set_option maxRecDepth 20000 in
theorem gL_set_X3_set : GoodIn wsL_set (wsV RL 7 RX3 yX3_set wsX3_set) := goodIn_app (goodIn_of _ (by decide +kernel)) ggL_set_X3_set
theorem dL_set_0 : decode cL_set 0 = .ok (.aload 4, 2) := by decide +kernel
theorem dL_set_2 : decode cL_set 2 = .ok (.iconst 0, 1) := by decide +kernel
theorem dL_set_3 : decode cL_set 3 = .ok (.aload_n 0, 1) := by decide +kernel
theorem dL_set_4 : decode cL_set 4 = .ok (.iload_n 1, 1) := by decide +kernel
theorem dL_set_5 : decode cL_set 5 = .ok (.iload_n 2, 1) := by decide +kernel
theorem dL_set_6 : decode cL_set 6 = .ok (.iload_n 3, 1) := by decide +kernel
theorem dL_set_7 : decode cL_set 7 = .ok (.invokevirtual 7, 3) := by decide +kernel
theorem dL_set_10 : decode cL_set 10 = .ok (.i2l, 1) := by decide +kernel
theorem dL_set_11 : decode cL_set 11 = .ok (.lastore, 1) := by decide +kernel
theorem dL_set_12 : decode cL_set 12 = .ok (.goto 11, 3) := by decide +kernel
theorem dL_set_15 : decode cL_set 15 = .ok (.astore 5, 2) := by decide +kernel
theorem dL_set_17 : decode cL_set 17 = .ok (.iconst 1, 1) := by decide +kernel
theorem dL_set_18 : decode cL_set 18 = .ok (.ireturn, 1) := by decide +kernel
theorem dL_set_19 : decode cL_set 19 = .ok (.astore 5, 2) := by decide +kernel
theorem dL_set_21 : decode cL_set 21 = .ok (.iconst 2, 1) := by decide +kernel
theorem dL_set_22 : decode cL_set 22 = .ok (.ireturn, 1) := by decide +kernel
theorem dL_set_23 : decode cL_set 23 = .ok (.iconst 0, 1) := by decide +kernel
theorem dL_set_24 : decode cL_set 24 = .ok (.ireturn, 1) := by decide +kernel
set_option maxRecDepth 20000 in
theorem ggL_setGust_X3_setGust : GoodIn wsL_setGust wsX3_setGust := goodIn_ca (goodIn_ca (goodIn_r _ [7, 8, 9, 10, 11, 12, 13, 14, 6, 15, 16, 17, 18, 19, 20, 21, 22, 23, 24, 25, 26, 27] (by decide +kernel) (by decide +kernel)) (goodIn_sub (fun _ h => List.mem_cons_of_mem _ (List.mem_append_left _ (List.mem_append_right _ h))) (by decide +kernel))) (goodIn_sub (fun _ h => List.mem_cons_of_mem _ (List.mem_append_right _ h)) (by decide +kernel))
set_option maxRecDepth 20000 in
theorem gL_setGust_X3_setGust : GoodIn wsL_setGust (wsV RL 17 RX3 yX3_setGust wsX3_setGust) := goodIn_app (goodIn_of _ (by decide +kernel)) ggL_setGust_X3_setGust
theorem dL_setGust_0 : decode cL_setGust 0 = .ok (.aload_n 3, 1) := by decide +kernel
theorem dL_setGust_1 : decode cL_setGust 1 = .ok (.iconst 0, 1) := by decide +kernel
theorem dL_setGust_2 : decode cL_setGust 2 = .ok (.aload_n 0, 1) := by decide +kernel
theorem dL_setGust_3 : decode cL_setGust 3 = .ok (.iload_n 1, 1) := by decide +kernel
theorem dL_setGust_4 : decode cL_setGust 4 = .ok (.iload_n 2, 1) := by decide +kernel
theorem dL_setGust_5 : decode cL_setGust 5 = .ok (.invokevirtual 17, 3) := by decide +kernel
theorem dL_setGust_8 : decode cL_setGust 8 = .ok (.i2l, 1) := by decide +kernel
theorem dL_setGust_9 : decode cL_setGust 9 = .ok (.lastore, 1) := by decide +kernel
theorem dL_setGust_10 : decode cL_setGust 10 = .ok (.goto 11, 3) := by decide +kernel
theorem dL_setGust_13 : decode cL_setGust 13 = .ok (.astore 4, 2) := by decide +kernel
theorem dL_setGust_15 : decode cL_setGust 15 = .ok (.iconst 1, 1) := by decide +kernel
theorem dL_setGust_16 : decode cL_setGust 16 = .ok (.ireturn, 1) := by decide +kernel
theorem dL_setGust_17 : decode cL_setGust 17 = .ok (.astore 4, 2) := by decide +kernel
theorem dL_setGust_19 : decode cL_setGust 19 = .ok (.iconst 2, 1) := by decide +kernel
theorem dL_setGust_20 : decode cL_setGust 20 = .ok (.ireturn, 1) := by decide +kernel
theorem dL_setGust_21 : decode cL_setGust 21 = .ok (.iconst 0, 1) := by decide +kernel
theorem dL_setGust_22 : decode cL_setGust 22 = .ok (.ireturn, 1) := by decide +kernel
set_option maxRecDepth 20000 in
theorem ggL_build_X3_build : GoodIn wsL_build wsX3_build := goodIn_ca (goodIn_ca (goodIn_r _ [7, 8, 9, 10, 11, 12, 13, 14, 15, 6, 16, 17, 18, 19, 20, 21, 22, 23, 24, 25, 26, 27, 28, 29, 30, 31, 32, 33] (by decide +kernel) (by decide +kernel)) (goodIn_sub (fun _ h => List.mem_cons_of_mem _ (List.mem_append_left _ (List.mem_append_right _ h))) (by decide +kernel))) (goodIn_sub (fun _ h => List.mem_cons_of_mem _ (List.mem_append_right _ h)) (by decide +kernel))
set_option maxRecDepth 20000 in
theorem gL_build_X3_build : GoodIn wsL_build (wsV RL 21 RX3 yX3_build wsX3_build) := goodIn_app (goodIn_of _ (by decide +kernel)) ggL_build_X3_build
theorem dL_build_0 : decode cL_build 0 = .ok (.aload_n 2, 1) := by decide +kernel
theorem dL_build_1 : decode cL_build 1 = .ok (.iconst 0, 1) := by decide +kernel
theorem dL_build_2 : decode cL_build 2 = .ok (.aload_n 0, 1) := by decide +kernel
theorem dL_build_3 : decode cL_build 3 = .ok (.iload_n 1, 1) := by decide +kernel
theorem dL_build_4 : decode cL_build 4 = .ok (.invokevirtual 21, 3) := by decide +kernel
theorem dL_build_7 : decode cL_build 7 = .ok (.i2l, 1) := by decide +kernel
theorem dL_build_8 : decode cL_build 8 = .ok (.lastore, 1) := by decide +kernel
theorem dL_build_9 : decode cL_build 9 = .ok (.goto 9, 3) := by decide +kernel
theorem dL_build_12 : decode cL_build 12 = .ok (.astore_n 3, 1) := by decide +kernel
theorem dL_build_13 : decode cL_build 13 = .ok (.iconst 1, 1) := by decide +kernel
theorem dL_build_14 : decode cL_build 14 = .ok (.ireturn, 1) := by decide +kernel
theorem dL_build_15 : decode cL_build 15 = .ok (.astore_n 3, 1) := by decide +kernel
theorem dL_build_16 : decode cL_build 16 = .ok (.iconst 2, 1) := by decide +kernel
theorem dL_build_17 : decode cL_build 17 = .ok (.ireturn, 1) := by decide +kernel
theorem dL_build_18 : decode cL_build 18 = .ok (.iconst 0, 1) := by decide +kernel
theorem dL_build_19 : decode cL_build 19 = .ok (.ireturn, 1) := by decide +kernel
set_option maxRecDepth 20000 in
theorem ggL_fill_X3_fill : GoodIn wsL_fill wsX3_fill := goodIn_ca (goodIn_ca (goodIn_r _ [7, 8, 9, 10, 11, 12, 13, 14, 15, 16, 6, 17, 18, 19, 20, 21, 22, 23, 24, 25, 26, 27, 28, 29, 30, 31, 32, 33, 34, 35, 36, 37, 38, 39, 40, 41, 42, 43, 44, 45, 46, 47, 48, 49, 50, 51, 52, 53, 54, 55, 56, 57, 58, 59, 60, 61, 62] (by decide +kernel) (by decide +kernel)) (goodIn_sub (fun _ h => List.mem_cons_of_mem _ (List.mem_append_left _ (List.mem_append_right _ h))) (by decide +kernel))) (goodIn_sub (fun _ h => List.mem_cons_of_mem _ (List.mem_append_right _ h)) (by decide +kernel))
set_option maxRecDepth 20000 in
theorem gL_fill_X3_fill : GoodIn wsL_fill (wsV RL 27 RX3 yX3_fill wsX3_fill) := goodIn_app (goodIn_of _ (by decide +kernel)) ggL_fill_X3_fill
theorem dL_fill_0 : decode cL_fill 0 = .ok (.aload_n 3, 1) := by decide +kernel
theorem dL_fill_1 : decode cL_fill 1 = .ok (.iconst 0, 1) := by decide +kernel
theorem dL_fill_2 : decode cL_fill 2 = .ok (.aload_n 0, 1) := by decide +kernel
theorem dL_fill_3 : decode cL_fill 3 = .ok (.iload_n 1, 1) := by decide +kernel
theorem dL_fill_4 : decode cL_fill 4 = .ok (.iload_n 2, 1) := by decide +kernel
theorem dL_fill_5 : decode cL_fill 5 = .ok (.invokevirtual 27, 3) := by decide +kernel
theorem dL_fill_8 : decode cL_fill 8 = .ok (.i2l, 1) := by decide +kernel
theorem dL_fill_9 : decode cL_fill 9 = .ok (.lastore, 1) := by decide +kernel
theorem dL_fill_10 : decode cL_fill 10 = .ok (.goto 11, 3) := by decide +kernel
theorem dL_fill_13 : decode cL_fill 13 = .ok (.astore 4, 2) := by decide +kernel
theorem dL_fill_15 : decode cL_fill 15 = .ok (.iconst 1, 1) := by decide +kernel
theorem dL_fill_16 : decode cL_fill 16 = .ok (.ireturn, 1) := by decide +kernel
theorem dL_fill_17 : decode cL_fill 17 = .ok (.astore 4, 2) := by decide +kernel
theorem dL_fill_19 : decode cL_fill 19 = .ok (.iconst 2, 1) := by decide +kernel
theorem dL_fill_20 : decode cL_fill 20 = .ok (.ireturn, 1) := by decide +kernel
theorem dL_fill_21 : decode cL_fill 21 = .ok (.iconst 0, 1) := by decide +kernel
theorem dL_fill_22 : decode cL_fill 22 = .ok (.ireturn, 1) := by decide +kernel
set_option maxRecDepth 20000 in
theorem ggL_go_X3_go : GoodIn wsL_go wsX3_go := goodIn_ca (goodIn_ca (goodIn_r _ [7, 8, 9, 10, 11, 12, 13, 14, 15, 6, 16, 17, 18, 19, 20, 21, 22, 23, 24, 25, 26, 27, 28, 29, 30, 31, 32, 33, 34] (by decide +kernel) (by decide +kernel)) (goodIn_sub (fun _ h => List.mem_cons_of_mem _ (List.mem_append_left _ (List.mem_append_right _ h))) (by decide +kernel))) (goodIn_sub (fun _ h => List.mem_cons_of_mem _ (List.mem_append_right _ h)) (by decide +kernel))
set_option maxRecDepth 20000 in
theorem gL_go_X3_go : GoodIn wsL_go (wsV RL 30 RX3 yX3_go wsX3_go) := goodIn_app (goodIn_of _ (by decide +kernel)) ggL_go_X3_go
theorem dL_go_0 : decode cL_go 0 = .ok (.aload_n 2, 1) := by decide +kernel
theorem dL_go_1 : decode cL_go 1 = .ok (.iconst 0, 1) := by decide +kernel
theorem dL_go_2 : decode cL_go 2 = .ok (.aload_n 0, 1) := by decide +kernel
theorem dL_go_3 : decode cL_go 3 = .ok (.iload_n 1, 1) := by decide +kernel
theorem dL_go_4 : decode cL_go 4 = .ok (.invokevirtual 30, 3) := by decide +kernel
theorem dL_go_7 : decode cL_go 7 = .ok (.i2l, 1) := by decide +kernel
theorem dL_go_8 : decode cL_go 8 = .ok (.lastore, 1) := by decide +kernel
theorem dL_go_9 : decode cL_go 9 = .ok (.goto 9, 3) := by decide +kernel
theorem dL_go_12 : decode cL_go 12 = .ok (.astore_n 3, 1) := by decide +kernel
theorem dL_go_13 : decode cL_go 13 = .ok (.iconst 1, 1) := by decide +kernel
theorem dL_go_14 : decode cL_go 14 = .ok (.ireturn, 1) := by decide +kernel
theorem dL_go_15 : decode cL_go 15 = .ok (.astore_n 3, 1) := by decide +kernel
theorem dL_go_16 : decode cL_go 16 = .ok (.iconst 2, 1) := by decide +kernel
theorem dL_go_17 : decode cL_go 17 = .ok (.ireturn, 1) := by decide +kernel
theorem dL_go_18 : decode cL_go 18 = .ok (.iconst 0, 1) := by decide +kernel
theorem dL_go_19 : decode cL_go 19 = .ok (.ireturn, 1) := by decide +kernel
set_option maxRecDepth 20000 in
theorem ggL_launch_X3_launch : GoodIn wsL_launch wsX3_launch := goodIn_ca (goodIn_ca (goodIn_r _ [7, 8, 9, 10, 11, 12, 13, 14, 15, 6, 16, 17, 18, 19, 20, 21, 22, 23, 24, 25, 26, 27, 28, 29, 30, 31] (by decide +kernel) (by decide +kernel)) (goodIn_sub (fun _ h => List.mem_cons_of_mem _ (List.mem_append_left _ (List.mem_append_right _ h))) (by decide +kernel))) (goodIn_sub (fun _ h => List.mem_cons_of_mem _ (List.mem_append_right _ h)) (by decide +kernel))
set_option maxRecDepth 20000 in
theorem gL_launch_X3_launch : GoodIn wsL_launch (wsV RL 33 RX3 yX3_launch wsX3_launch) := goodIn_app (goodIn_of _ (by decide +kernel)) ggL_launch_X3_launch
theorem dL_launch_0 : decode cL_launch 0 = .ok (.aload_n 2, 1) := by decide +kernel
theorem dL_launch_1 : decode cL_launch 1 = .ok (.iconst 0, 1) := by decide +kernel
theorem dL_launch_2 : decode cL_launch 2 = .ok (.aload_n 0, 1) := by decide +kernel
theorem dL_launch_3 : decode cL_launch 3 = .ok (.iload_n 1, 1) := by decide +kernel
theorem dL_launch_4 : decode cL_launch 4 = .ok (.invokevirtual 33, 3) := by decide +kernel
theorem dL_launch_7 : decode cL_launch 7 = .ok (.i2l, 1) := by decide +kernel
theorem dL_launch_8 : decode cL_launch 8 = .ok (.lastore, 1) := by decide +kernel
theorem dL_launch_9 : decode cL_launch 9 = .ok (.goto 9, 3) := by decide +kernel
theorem dL_launch_12 : decode cL_launch 12 = .ok (.astore_n 3, 1) := by decide +kernel
theorem dL_launch_13 : decode cL_launch 13 = .ok (.iconst 1, 1) := by decide +kernel
theorem dL_launch_14 : decode cL_launch 14 = .ok (.ireturn, 1) := by decide +kernel
theorem dL_launch_15 : decode cL_launch 15 = .ok (.astore_n 3, 1) := by decide +kernel
theorem dL_launch_16 : decode cL_launch 16 = .ok (.iconst 2, 1) := by decide +kernel
theorem dL_launch_17 : decode cL_launch 17 = .ok (.ireturn, 1) := by decide +kernel
theorem dL_launch_18 : decode cL_launch 18 = .ok (.iconst 0, 1) := by decide +kernel
theorem dL_launch_19 : decode cL_launch 19 = .ok (.ireturn, 1) := by decide +kernel
set_option maxRecDepth 20000 in
theorem ggL_stow_X3_stow : GoodIn wsL_stow wsX3_stow := goodIn_ca (goodIn_ca (goodIn_r _ [7, 8, 9, 10, 11, 12, 13, 14, 15, 16, 6, 17, 18, 19, 20, 21, 22, 23, 24, 25, 26, 27, 28, 29, 30, 31, 32, 33, 34, 35, 36, 37, 38, 39, 40, 41, 42, 43, 44, 45, 46, 47, 48, 49, 50, 51, 52, 53, 54, 55, 56] (by decide +kernel) (by decide +kernel)) (goodIn_sub (fun _ h => List.mem_cons_of_mem _ (List.mem_append_left _ (List.mem_append_right _ h))) (by decide +kernel))) (goodIn_sub (fun _ h => List.mem_cons_of_mem _ (List.mem_append_right _ h)) (by decide +kernel))
set_option maxRecDepth 20000 in
theorem gL_stow_X3_stow : GoodIn wsL_stow (wsV RL 36 RX3 yX3_stow wsX3_stow) := goodIn_app (goodIn_of _ (by decide +kernel)) ggL_stow_X3_stow
theorem dL_stow_0 : decode cL_stow 0 = .ok (.aload 4, 2) := by decide +kernel
theorem dL_stow_2 : decode cL_stow 2 = .ok (.iconst 0, 1) := by decide +kernel
theorem dL_stow_3 : decode cL_stow 3 = .ok (.aload_n 0, 1) := by decide +kernel
theorem dL_stow_4 : decode cL_stow 4 = .ok (.iload_n 1, 1) := by decide +kernel
theorem dL_stow_5 : decode cL_stow 5 = .ok (.iload_n 2, 1) := by decide +kernel
theorem dL_stow_6 : decode cL_stow 6 = .ok (.iload_n 3, 1) := by decide +kernel
theorem dL_stow_7 : decode cL_stow 7 = .ok (.invokevirtual 36, 3) := by decide +kernel
theorem dL_stow_10 : decode cL_stow 10 = .ok (.i2l, 1) := by decide +kernel
theorem dL_stow_11 : decode cL_stow 11 = .ok (.lastore, 1) := by decide +kernel
theorem dL_stow_12 : decode cL_stow 12 = .ok (.goto 11, 3) := by decide +kernel
theorem dL_stow_15 : decode cL_stow 15 = .ok (.astore 5, 2) := by decide +kernel
theorem dL_stow_17 : decode cL_stow 17 = .ok (.iconst 1, 1) := by decide +kernel
theorem dL_stow_18 : decode cL_stow 18 = .ok (.ireturn, 1) := by decide +kernel
theorem dL_stow_19 : decode cL_stow 19 = .ok (.astore 5, 2) := by decide +kernel
theorem dL_stow_21 : decode cL_stow 21 = .ok (.iconst 2, 1) := by decide +kernel
theorem dL_stow_22 : decode cL_stow 22 = .ok (.ireturn, 1) := by decide +kernel
theorem dL_stow_23 : decode cL_stow 23 = .ok (.iconst 0, 1) := by decide +kernel
theorem dL_stow_24 : decode cL_stow 24 = .ok (.ireturn, 1) := by decide +kernel
set_option maxRecDepth 20000 in
theorem ggL_sail_X3_sail : GoodIn wsL_sail wsX3_sail := goodIn_ca (goodIn_ca (goodIn_r _ [7, 8, 9, 10, 11, 12, 13, 14, 15, 16, 6, 17, 18, 19, 20, 21, 22, 23, 24, 25, 26, 27, 28, 29, 30, 31, 32, 33, 34, 35, 36, 37, 38, 39, 40, 41, 42, 43, 44, 45, 46, 47, 48, 49, 50, 51, 52, 53, 54, 55, 56, 57, 58, 59, 60] (by decide +kernel) (by decide +kernel)) (goodIn_sub (fun _ h => List.mem_cons_of_mem _ (List.mem_append_left _ (List.mem_append_right _ h))) (by decide +kernel))) (goodIn_sub (fun _ h => List.mem_cons_of_mem _ (List.mem_append_right _ h)) (by decide +kernel))
set_option maxRecDepth 20000 in
theorem gL_sail_X3_sail : GoodIn wsL_sail (wsV RL 40 RX3 yX3_sail wsX3_sail) := goodIn_app (goodIn_of _ (by decide +kernel)) ggL_sail_X3_sail
theorem dL_sail_0 : decode cL_sail 0 = .ok (.aload_n 2, 1) := by decide +kernel
theorem dL_sail_1 : decode cL_sail 1 = .ok (.iconst 0, 1) := by decide +kernel
theorem dL_sail_2 : decode cL_sail 2 = .ok (.aload_n 0, 1) := by decide +kernel
theorem dL_sail_3 : decode cL_sail 3 = .ok (.iload_n 1, 1) := by decide +kernel
theorem dL_sail_4 : decode cL_sail 4 = .ok (.invokevirtual 40, 3) := by decide +kernel
theorem dL_sail_7 : decode cL_sail 7 = .ok (.i2l, 1) := by decide +kernel
theorem dL_sail_8 : decode cL_sail 8 = .ok (.lastore, 1) := by decide +kernel
theorem dL_sail_9 : decode cL_sail 9 = .ok (.goto 9, 3) := by decide +kernel
theorem dL_sail_12 : decode cL_sail 12 = .ok (.astore_n 3, 1) := by decide +kernel
theorem dL_sail_13 : decode cL_sail 13 = .ok (.iconst 1, 1) := by decide +kernel
theorem dL_sail_14 : decode cL_sail 14 = .ok (.ireturn, 1) := by decide +kernel
theorem dL_sail_15 : decode cL_sail 15 = .ok (.astore_n 3, 1) := by decide +kernel
theorem dL_sail_16 : decode cL_sail 16 = .ok (.iconst 2, 1) := by decide +kernel
theorem dL_sail_17 : decode cL_sail 17 = .ok (.ireturn, 1) := by decide +kernel
theorem dL_sail_18 : decode cL_sail 18 = .ok (.iconst 0, 1) := by decide +kernel
theorem dL_sail_19 : decode cL_sail 19 = .ok (.ireturn, 1) := by decide +kernel
set_option maxRecDepth 20000 in
theorem ggL_layer_X3_layer : GoodIn wsL_layer wsX3_layer := goodIn_ca (goodIn_r _ [6, 7, 8, 9, 10, 11, 12, 5, 13, 14, 15, 16, 17, 18, 19, 20, 21, 22, 23, 24, 25, 26, 27, 28, 29, 30, 31, 32, 33, 34, 35] (by decide +kernel) (by decide +kernel)) (goodIn_sub (fun _ h => List.mem_cons_of_mem _ (List.mem_append_right _ h)) (by decide +kernel))
set_option maxRecDepth 20000 in
theorem gL_layer_X3_layer : GoodIn wsL_layer (wsV RL 43 RX3 yX3_layer wsX3_layer) := goodIn_app (goodIn_of _ (by decide +kernel)) ggL_layer_X3_layer
theorem dL_layer_0 : decode cL_layer 0 = .ok (.aload_n 3, 1) := by decide +kernel
theorem dL_layer_1 : decode cL_layer 1 = .ok (.iconst 0, 1) := by decide +kernel
theorem dL_layer_2 : decode cL_layer 2 = .ok (.aload_n 0, 1) := by decide +kernel
theorem dL_layer_3 : decode cL_layer 3 = .ok (.iload_n 1, 1) := by decide +kernel
theorem dL_layer_4 : decode cL_layer 4 = .ok (.iload_n 2, 1) := by decide +kernel
theorem dL_layer_5 : decode cL_layer 5 = .ok (.invokevirtual 43, 3) := by decide +kernel
theorem dL_layer_8 : decode cL_layer 8 = .ok (.i2l, 1) := by decide +kernel
theorem dL_layer_9 : decode cL_layer 9 = .ok (.lastore, 1) := by decide +kernel
theorem dL_layer_10 : decode cL_layer 10 = .ok (.goto 7, 3) := by decide +kernel
theorem dL_layer_13 : decode cL_layer 13 = .ok (.astore 4, 2) := by decide +kernel
theorem dL_layer_15 : decode cL_layer 15 = .ok (.iconst 1, 1) := by decide +kernel
theorem dL_layer_16 : decode cL_layer 16 = .ok (.ireturn, 1) := by decide +kernel
theorem dL_layer_17 : decode cL_layer 17 = .ok (.iconst 0, 1) := by decide +kernel
theorem dL_layer_18 : decode cL_layer 18 = .ok (.ireturn, 1) := by decide +kernel
set_option maxRecDepth 20000 in
theorem ggL_told_X3_told : GoodIn wsL_told wsX3_told := goodIn_ca (goodIn_r _ [6, 7, 8, 9, 10, 11, 12, 5, 13, 14, 15, 16, 17, 18, 19, 20, 21, 22, 23, 24, 25, 26, 27, 28, 29, 30, 31, 32, 33, 34, 35, 36, 37, 38, 39, 40, 41, 42, 43, 44, 45, 46, 47] (by decide +kernel) (by decide +kernel)) (goodIn_sub (fun _ h => List.mem_cons_of_mem _ (List.mem_append_right _ h)) (by decide +kernel))
set_option maxRecDepth 20000 in
theorem gL_told_X3_told : GoodIn wsL_told (wsV RL 46 RX3 yX3_told wsX3_told) := goodIn_app (goodIn_of _ (by decide +kernel)) ggL_told_X3_told
theorem dL_told_0 : decode cL_told 0 = .ok (.aload_n 3, 1) := by decide +kernel
theorem dL_told_1 : decode cL_told 1 = .ok (.iconst 0, 1) := by decide +kernel
theorem dL_told_2 : decode cL_told 2 = .ok (.aload_n 0, 1) := by decide +kernel
theorem dL_told_3 : decode cL_told 3 = .ok (.iload_n 1, 1) := by decide +kernel
theorem dL_told_4 : decode cL_told 4 = .ok (.iload_n 2, 1) := by decide +kernel
theorem dL_told_5 : decode cL_told 5 = .ok (.invokevirtual 46, 3) := by decide +kernel
theorem dL_told_8 : decode cL_told 8 = .ok (.i2l, 1) := by decide +kernel
theorem dL_told_9 : decode cL_told 9 = .ok (.lastore, 1) := by decide +kernel
theorem dL_told_10 : decode cL_told 10 = .ok (.goto 7, 3) := by decide +kernel
theorem dL_told_13 : decode cL_told 13 = .ok (.astore 4, 2) := by decide +kernel
theorem dL_told_15 : decode cL_told 15 = .ok (.iconst 1, 1) := by decide +kernel
theorem dL_told_16 : decode cL_told 16 = .ok (.ireturn, 1) := by decide +kernel
theorem dL_told_17 : decode cL_told 17 = .ok (.iconst 0, 1) := by decide +kernel
theorem dL_told_18 : decode cL_told 18 = .ok (.ireturn, 1) := by decide +kernel
set_option maxRecDepth 20000 in
theorem ggL_boat_X3_boat : GoodIn wsL_boat wsX3_boat := goodIn_ca (goodIn_r _ [6, 7, 8, 9, 10, 11, 12, 5, 13, 14, 15, 16, 17, 18, 19, 20, 21, 22, 23, 24, 25, 26, 27, 28, 29, 30, 31, 32, 33, 34, 35, 36, 37, 38, 39, 40, 41, 42, 43, 44, 45, 46, 47, 48, 49, 50, 51, 52, 53, 54, 55, 56, 57, 58, 59, 60] (by decide +kernel) (by decide +kernel)) (goodIn_sub (fun _ h => List.mem_cons_of_mem _ (List.mem_append_right _ h)) (by decide +kernel))
set_option maxRecDepth 20000 in
theorem gL_boat_X3_boat : GoodIn wsL_boat (wsV RL 49 RX3 yX3_boat wsX3_boat) := goodIn_app (goodIn_of _ (by decide +kernel)) ggL_boat_X3_boat
theorem dL_boat_0 : decode cL_boat 0 = .ok (.aload_n 3, 1) := by decide +kernel
theorem dL_boat_1 : decode cL_boat 1 = .ok (.iconst 0, 1) := by decide +kernel
theorem dL_boat_2 : decode cL_boat 2 = .ok (.aload_n 0, 1) := by decide +kernel
theorem dL_boat_3 : decode cL_boat 3 = .ok (.iload_n 1, 1) := by decide +kernel
theorem dL_boat_4 : decode cL_boat 4 = .ok (.iload_n 2, 1) := by decide +kernel
theorem dL_boat_5 : decode cL_boat 5 = .ok (.invokevirtual 49, 3) := by decide +kernel
theorem dL_boat_8 : decode cL_boat 8 = .ok (.i2l, 1) := by decide +kernel
theorem dL_boat_9 : decode cL_boat 9 = .ok (.lastore, 1) := by decide +kernel
theorem dL_boat_10 : decode cL_boat 10 = .ok (.goto 7, 3) := by decide +kernel
theorem dL_boat_13 : decode cL_boat 13 = .ok (.astore 4, 2) := by decide +kernel
theorem dL_boat_15 : decode cL_boat 15 = .ok (.iconst 1, 1) := by decide +kernel
theorem dL_boat_16 : decode cL_boat 16 = .ok (.ireturn, 1) := by decide +kernel
theorem dL_boat_17 : decode cL_boat 17 = .ok (.iconst 0, 1) := by decide +kernel
theorem dL_boat_18 : decode cL_boat 18 = .ok (.ireturn, 1) := by decide +kernel
set_option maxRecDepth 20000 in
theorem ggL_beach_X3_beach : GoodIn wsL_beach wsX3_beach := goodIn_ca (goodIn_r _ [6, 7, 8, 9, 10, 11, 5, 12, 13, 14, 15, 16, 17, 18, 19, 20, 21, 22, 23, 24, 25, 26, 27, 28, 29] (by decide +kernel) (by decide +kernel)) (goodIn_sub (fun _ h => List.mem_cons_of_mem _ (List.mem_append_right _ h)) (by decide +kernel))
set_option maxRecDepth 20000 in
theorem gL_beach_X3_beach : GoodIn wsL_beach (wsV RL 52 RX3 yX3_beach wsX3_beach) := goodIn_app (goodIn_of _ (by decide +kernel)) ggL_beach_X3_beach
theorem dL_beach_0 : decode cL_beach 0 = .ok (.aload_n 2, 1) := by decide +kernel
theorem dL_beach_1 : decode cL_beach 1 = .ok (.iconst 0, 1) := by decide +kernel
theorem dL_beach_2 : decode cL_beach 2 = .ok (.aload_n 0, 1) := by decide +kernel
theorem dL_beach_3 : decode cL_beach 3 = .ok (.iload_n 1, 1) := by decide +kernel
theorem dL_beach_4 : decode cL_beach 4 = .ok (.invokevirtual 52, 3) := by decide +kernel
theorem dL_beach_7 : decode cL_beach 7 = .ok (.i2l, 1) := by decide +kernel
theorem dL_beach_8 : decode cL_beach 8 = .ok (.lastore, 1) := by decide +kernel
theorem dL_beach_9 : decode cL_beach 9 = .ok (.goto 6, 3) := by decide +kernel
theorem dL_beach_12 : decode cL_beach 12 = .ok (.astore_n 3, 1) := by decide +kernel
theorem dL_beach_13 : decode cL_beach 13 = .ok (.iconst 1, 1) := by decide +kernel
theorem dL_beach_14 : decode cL_beach 14 = .ok (.ireturn, 1) := by decide +kernel
theorem dL_beach_15 : decode cL_beach 15 = .ok (.iconst 0, 1) := by decide +kernel
theorem dL_beach_16 : decode cL_beach 16 = .ok (.ireturn, 1) := by decide +kernel
set_option maxRecDepth 20000 in
theorem ggL_count_X3_count : GoodIn wsL_count wsX3_count := goodIn_ca (goodIn_r _ [6, 7, 8, 9, 10, 11, 12, 13, 14, 15, 5, 16, 17, 18, 19, 20, 21, 22, 23, 24, 25, 26, 27, 28, 29, 30, 31, 32, 33, 34, 35, 36, 37, 38, 39, 40, 41, 42, 43, 44, 45, 46, 47, 48, 49, 50, 51, 52, 53, 54, 55, 56, 57, 58, 59, 60] (by decide +kernel) (by decide +kernel)) (goodIn_sub (fun _ h => List.mem_cons_of_mem _ (List.mem_append_right _ h)) (by decide +kernel))
set_option maxRecDepth 20000 in
theorem gL_count_X3_count : GoodIn wsL_count (wsV RL 55 RX3 yX3_count wsX3_count) := goodIn_app (goodIn_of _ (by decide +kernel)) ggL_count_X3_count
theorem dL_count_0 : decode cL_count 0 = .ok (.aload_n 2, 1) := by decide +kernel
theorem dL_count_1 : decode cL_count 1 = .ok (.iconst 0, 1) := by decide +kernel
theorem dL_count_2 : decode cL_count 2 = .ok (.aload_n 0, 1) := by decide +kernel
theorem dL_count_3 : decode cL_count 3 = .ok (.iload_n 1, 1) := by decide +kernel
theorem dL_count_4 : decode cL_count 4 = .ok (.invokevirtual 55, 3) := by decide +kernel
theorem dL_count_7 : decode cL_count 7 = .ok (.i2l, 1) := by decide +kernel
theorem dL_count_8 : decode cL_count 8 = .ok (.lastore, 1) := by decide +kernel
theorem dL_count_9 : decode cL_count 9 = .ok (.goto 6, 3) := by decide +kernel
theorem dL_count_12 : decode cL_count 12 = .ok (.astore_n 3, 1) := by decide +kernel
theorem dL_count_13 : decode cL_count 13 = .ok (.iconst 1, 1) := by decide +kernel
theorem dL_count_14 : decode cL_count 14 = .ok (.ireturn, 1) := by decide +kernel
theorem dL_count_15 : decode cL_count 15 = .ok (.iconst 0, 1) := by decide +kernel
theorem dL_count_16 : decode cL_count 16 = .ok (.ireturn, 1) := by decide +kernel
set_option maxRecDepth 20000 in
theorem ggL_pass_X3_pass : GoodIn wsL_pass wsX3_pass := goodIn_ca (goodIn_r _ [6, 7, 8, 9, 10, 11, 5, 12, 13, 14, 15, 16, 17, 18, 19, 20, 21, 22, 23, 24, 25, 26, 27, 28, 29, 30, 31, 32, 33, 34, 35, 36, 37, 38, 39, 40, 41, 42, 43, 44, 45, 46, 47, 48, 49, 50, 51, 52, 53, 54, 55, 56, 57, 58, 59, 60, 61, 62, 63, 64, 65, 66, 67, 68, 69, 70, 71, 72, 73, 74, 75, 76, 77, 78, 79, 80, 81, 82, 83] (by decide +kernel) (by decide +kernel)) (goodIn_sub (fun _ h => List.mem_cons_of_mem _ (List.mem_append_right _ h)) (by decide +kernel))
set_option maxRecDepth 20000 in
theorem gL_pass_X3_pass : GoodIn wsL_pass (wsV RL 58 RX3 yX3_pass wsX3_pass) := goodIn_app (goodIn_of _ (by decide +kernel)) ggL_pass_X3_pass
theorem dL_pass_0 : decode cL_pass 0 = .ok (.aload_n 2, 1) := by decide +kernel
theorem dL_pass_1 : decode cL_pass 1 = .ok (.iconst 0, 1) := by decide +kernel
theorem dL_pass_2 : decode cL_pass 2 = .ok (.aload_n 0, 1) := by decide +kernel
theorem dL_pass_3 : decode cL_pass 3 = .ok (.iload_n 1, 1) := by decide +kernel
theorem dL_pass_4 : decode cL_pass 4 = .ok (.invokevirtual 58, 3) := by decide +kernel
theorem dL_pass_7 : decode cL_pass 7 = .ok (.i2l, 1) := by decide +kernel
theorem dL_pass_8 : decode cL_pass 8 = .ok (.lastore, 1) := by decide +kernel
theorem dL_pass_9 : decode cL_pass 9 = .ok (.goto 6, 3) := by decide +kernel
theorem dL_pass_12 : decode cL_pass 12 = .ok (.astore_n 3, 1) := by decide +kernel
theorem dL_pass_13 : decode cL_pass 13 = .ok (.iconst 1, 1) := by decide +kernel
theorem dL_pass_14 : decode cL_pass 14 = .ok (.ireturn, 1) := by decide +kernel
theorem dL_pass_15 : decode cL_pass 15 = .ok (.iconst 0, 1) := by decide +kernel
theorem dL_pass_16 : decode cL_pass 16 = .ok (.ireturn, 1) := by decide +kernel
set_option maxRecDepth 20000 in
theorem ggL_back_X3_back : GoodIn wsL_back wsX3_back := goodIn_ca (goodIn_r _ [6, 7, 8, 9, 10, 11, 12, 13, 14, 15, 5, 16, 17, 18, 19, 20, 21, 22, 23, 24, 25, 26, 27, 28, 29, 30, 31, 32, 33, 34, 35, 36, 37, 38, 39, 40, 41, 42, 43, 44, 45, 46, 47, 48, 49, 50, 51, 52, 53, 54, 55, 56, 57, 58, 59, 60, 61, 62, 63, 64, 65, 66, 67, 68, 69, 70, 71, 72, 73, 74, 75, 76, 77, 78, 79, 80, 81, 82, 83, 84] (by decide +kernel) (by decide +kernel)) (goodIn_sub (fun _ h => List.mem_cons_of_mem _ (List.mem_append_right _ h)) (by decide +kernel))
set_option maxRecDepth 20000 in
theorem gL_back_X3_back : GoodIn wsL_back (wsV RL 61 RX3 yX3_back wsX3_back) := goodIn_app (goodIn_of _ (by decide +kernel)) ggL_back_X3_back
theorem dL_back_0 : decode cL_back 0 = .ok (.aload_n 2, 1) := by decide +kernel
theorem dL_back_1 : decode cL_back 1 = .ok (.iconst 0, 1) := by decide +kernel
theorem dL_back_2 : decode cL_back 2 = .ok (.aload_n 0, 1) := by decide +kernel
theorem dL_back_3 : decode cL_back 3 = .ok (.iload_n 1, 1) := by decide +kernel
theorem dL_back_4 : decode cL_back 4 = .ok (.invokevirtual 61, 3) := by decide +kernel
theorem dL_back_7 : decode cL_back 7 = .ok (.i2l, 1) := by decide +kernel
theorem dL_back_8 : decode cL_back 8 = .ok (.lastore, 1) := by decide +kernel
theorem dL_back_9 : decode cL_back 9 = .ok (.goto 6, 3) := by decide +kernel
theorem dL_back_12 : decode cL_back 12 = .ok (.astore_n 3, 1) := by decide +kernel
theorem dL_back_13 : decode cL_back 13 = .ok (.iconst 1, 1) := by decide +kernel
theorem dL_back_14 : decode cL_back 14 = .ok (.ireturn, 1) := by decide +kernel
theorem dL_back_15 : decode cL_back 15 = .ok (.iconst 0, 1) := by decide +kernel
theorem dL_back_16 : decode cL_back 16 = .ok (.ireturn, 1) := by decide +kernel
set_option maxRecDepth 20000 in
theorem ggL_arrives_X3_arrives : GoodIn wsL_arrives wsX3_arrives := goodIn_ca (goodIn_r _ [6, 7, 8, 9, 10, 11, 12, 13, 14, 15, 5, 16, 17, 18, 19, 20, 21, 22, 23, 24, 25, 26, 27, 28, 29, 30, 31, 32, 33, 34, 35, 36, 37, 38, 39, 40, 41, 42, 43, 44, 45, 46, 47, 48, 49, 50, 51, 52, 53, 54, 55, 56, 57, 58, 59, 60, 61, 62, 63, 64, 65, 66, 67, 68, 69, 70, 71, 72, 73, 74, 75, 76, 77, 78, 79, 80, 81, 82, 83, 84, 85, 86, 87, 88, 89, 90] (by decide +kernel) (by decide +kernel)) (goodIn_sub (fun _ h => List.mem_cons_of_mem _ (List.mem_append_right _ h)) (by decide +kernel))
set_option maxRecDepth 20000 in
theorem gL_arrives_X3_arrives : GoodIn wsL_arrives (wsV RL 64 RX3 yX3_arrives wsX3_arrives) := goodIn_app (goodIn_of _ (by decide +kernel)) ggL_arrives_X3_arrives
theorem dL_arrives_0 : decode cL_arrives 0 = .ok (.aload_n 2, 1) := by decide +kernel
theorem dL_arrives_1 : decode cL_arrives 1 = .ok (.iconst 0, 1) := by decide +kernel
theorem dL_arrives_2 : decode cL_arrives 2 = .ok (.aload_n 0, 1) := by decide +kernel
theorem dL_arrives_3 : decode cL_arrives 3 = .ok (.iload_n 1, 1) := by decide +kernel
theorem dL_arrives_4 : decode cL_arrives 4 = .ok (.invokevirtual 64, 3) := by decide +kernel
theorem dL_arrives_7 : decode cL_arrives 7 = .ok (.i2l, 1) := by decide +kernel
theorem dL_arrives_8 : decode cL_arrives 8 = .ok (.lastore, 1) := by decide +kernel
theorem dL_arrives_9 : decode cL_arrives 9 = .ok (.goto 6, 3) := by decide +kernel
theorem dL_arrives_12 : decode cL_arrives 12 = .ok (.astore_n 3, 1) := by decide +kernel
theorem dL_arrives_13 : decode cL_arrives 13 = .ok (.iconst 1, 1) := by decide +kernel
theorem dL_arrives_14 : decode cL_arrives 14 = .ok (.ireturn, 1) := by decide +kernel
theorem dL_arrives_15 : decode cL_arrives 15 = .ok (.iconst 0, 1) := by decide +kernel
theorem dL_arrives_16 : decode cL_arrives 16 = .ok (.ireturn, 1) := by decide +kernel
set_option maxRecDepth 20000 in
theorem ggL_advise_X3_advise : GoodIn wsL_advise wsX3_advise := goodIn_ca (goodIn_r _ [6, 7, 8, 9, 10, 11, 12, 5, 13, 14, 15, 16, 17, 18, 19, 20, 21, 22, 23, 24, 25, 26, 27, 28, 29, 30, 31, 32, 33, 34, 35, 36, 37, 38, 39, 40, 41, 42, 43, 44, 45, 46, 47, 48, 49, 50, 51, 52, 53] (by decide +kernel) (by decide +kernel)) (goodIn_sub (fun _ h => List.mem_cons_of_mem _ (List.mem_append_right _ h)) (by decide +kernel))
set_option maxRecDepth 20000 in
theorem gL_advise_X3_advise : GoodIn wsL_advise (wsV RL 67 RX3 yX3_advise wsX3_advise) := goodIn_app (goodIn_of _ (by decide +kernel)) ggL_advise_X3_advise
theorem dL_advise_0 : decode cL_advise 0 = .ok (.aload_n 3, 1) := by decide +kernel
theorem dL_advise_1 : decode cL_advise 1 = .ok (.iconst 0, 1) := by decide +kernel
theorem dL_advise_2 : decode cL_advise 2 = .ok (.aload_n 0, 1) := by decide +kernel
theorem dL_advise_3 : decode cL_advise 3 = .ok (.iload_n 1, 1) := by decide +kernel
theorem dL_advise_4 : decode cL_advise 4 = .ok (.iload_n 2, 1) := by decide +kernel
theorem dL_advise_5 : decode cL_advise 5 = .ok (.invokevirtual 67, 3) := by decide +kernel
theorem dL_advise_8 : decode cL_advise 8 = .ok (.i2l, 1) := by decide +kernel
theorem dL_advise_9 : decode cL_advise 9 = .ok (.lastore, 1) := by decide +kernel
theorem dL_advise_10 : decode cL_advise 10 = .ok (.goto 7, 3) := by decide +kernel
theorem dL_advise_13 : decode cL_advise 13 = .ok (.astore 4, 2) := by decide +kernel
theorem dL_advise_15 : decode cL_advise 15 = .ok (.iconst 1, 1) := by decide +kernel
theorem dL_advise_16 : decode cL_advise 16 = .ok (.ireturn, 1) := by decide +kernel
theorem dL_advise_17 : decode cL_advise 17 = .ok (.iconst 0, 1) := by decide +kernel
theorem dL_advise_18 : decode cL_advise 18 = .ok (.ireturn, 1) := by decide +kernel
set_option maxRecDepth 20000 in
theorem ggL_foresee_X3_foresee : GoodIn wsL_foresee wsX3_foresee := goodIn_ca (goodIn_ca (goodIn_r _ [7, 8, 9, 10, 11, 12, 13, 14, 15, 16, 17, 6, 18, 19, 20, 21, 22, 23, 24, 25, 26, 27, 28, 29, 30, 31, 32, 33, 34, 35, 36, 37, 38, 39, 40, 41, 42, 43, 44, 45, 46, 47, 48, 49, 50, 51, 52, 53, 54, 55, 56, 57, 58, 59, 60, 61, 62, 63, 64, 65, 66, 67, 68, 69, 70, 71, 72, 73, 74, 75, 76, 77, 78, 79, 80, 81, 82, 83, 84, 85, 86, 87, 88, 89, 90, 91, 92, 93, 94, 95, 96, 97, 98, 99, 100, 101, 102, 103] (by decide +kernel) (by decide +kernel)) (goodIn_sub (fun _ h => List.mem_cons_of_mem _ (List.mem_append_left _ (List.mem_append_right _ h))) (by decide +kernel))) (goodIn_sub (fun _ h => List.mem_cons_of_mem _ (List.mem_append_right _ h)) (by decide +kernel))
set_option maxRecDepth 20000 in
theorem gL_foresee_X3_foresee : GoodIn wsL_foresee (wsV RL 70 RX3 yX3_foresee wsX3_foresee) := goodIn_app (goodIn_of _ (by decide +kernel)) ggL_foresee_X3_foresee
theorem dL_foresee_0 : decode cL_foresee 0 = .ok (.aload_n 3, 1) := by decide +kernel
theorem dL_foresee_1 : decode cL_foresee 1 = .ok (.iconst 0, 1) := by decide +kernel
theorem dL_foresee_2 : decode cL_foresee 2 = .ok (.aload_n 0, 1) := by decide +kernel
theorem dL_foresee_3 : decode cL_foresee 3 = .ok (.iload_n 1, 1) := by decide +kernel
theorem dL_foresee_4 : decode cL_foresee 4 = .ok (.iload_n 2, 1) := by decide +kernel
theorem dL_foresee_5 : decode cL_foresee 5 = .ok (.invokevirtual 70, 3) := by decide +kernel
theorem dL_foresee_8 : decode cL_foresee 8 = .ok (.i2l, 1) := by decide +kernel
theorem dL_foresee_9 : decode cL_foresee 9 = .ok (.lastore, 1) := by decide +kernel
theorem dL_foresee_10 : decode cL_foresee 10 = .ok (.goto 11, 3) := by decide +kernel
theorem dL_foresee_13 : decode cL_foresee 13 = .ok (.astore 4, 2) := by decide +kernel
theorem dL_foresee_15 : decode cL_foresee 15 = .ok (.iconst 1, 1) := by decide +kernel
theorem dL_foresee_16 : decode cL_foresee 16 = .ok (.ireturn, 1) := by decide +kernel
theorem dL_foresee_17 : decode cL_foresee 17 = .ok (.astore 4, 2) := by decide +kernel
theorem dL_foresee_19 : decode cL_foresee 19 = .ok (.iconst 2, 1) := by decide +kernel
theorem dL_foresee_20 : decode cL_foresee 20 = .ok (.ireturn, 1) := by decide +kernel
theorem dL_foresee_21 : decode cL_foresee 21 = .ok (.iconst 0, 1) := by decide +kernel
theorem dL_foresee_22 : decode cL_foresee 22 = .ok (.ireturn, 1) := by decide +kernel
set_option maxRecDepth 20000 in
theorem ggL_law_X3_init : GoodIn wsL_law wsX3_init := goodIn_r _ [9, 10, 11, 12, 13, 14, 15, 16, 17, 18, 19, 20, 21, 22, 23, 24, 25, 26, 27, 28, 29, 30, 31, 32, 33, 34, 35, 36, 37, 38, 39, 40, 41, 42, 43, 567, 568, 569, 570, 571, 572, 573, 574, 575, 576, 577, 578, 588, 589, 590, 591, 592, 593, 594, 595, 596, 597] (by decide +kernel) (by decide +kernel)
set_option maxRecDepth 20000 in
theorem gL_law_X3_init : GoodIn wsL_law (wsX3_init) := ggL_law_X3_init
set_option maxRecDepth 20000 in
theorem ggL_law_X4_init : GoodIn wsL_law wsX4_init := goodIn_r _ [46, 47, 11, 12, 13, 48, 49, 50, 51, 52, 53, 579, 580, 581, 582, 583, 584, 585, 586, 587] (by decide +kernel) (by decide +kernel)
set_option maxRecDepth 20000 in
theorem gL_law_X4_init : GoodIn wsL_law (wsX4_init) := ggL_law_X4_init
set_option maxRecDepth 20000 in
theorem ggL_law_L_set : GoodIn wsL_law wsL_set := goodIn_ca (goodIn_ca (goodIn_r _ [57, 58, 59, 60, 61, 62, 2, 63, 64, 65, 66, 67, 14, 15, 68, 69, 70, 71, 72, 73, 567, 568, 569, 570, 571, 572, 573, 574, 575, 576, 577, 578] (by decide +kernel) (by decide +kernel)) (goodIn_sub (fun _ h => List.mem_append_left _ (List.mem_append_left _ (List.mem_append_right _ h))) (by decide +kernel))) (goodIn_sub (fun _ h => List.mem_append_left _ (List.mem_append_right _ h)) (by decide +kernel))
set_option maxRecDepth 20000 in
theorem gL_law_L_set : GoodIn wsL_law (va_wsS RL 77 yL_set wsL_set) := goodIn_app (goodIn_of _ (by decide +kernel)) ggL_law_L_set
set_option maxRecDepth 20000 in
theorem ggL_law_X4_set : GoodIn wsL_law wsX4_set := goodIn_r _ [77, 78, 48, 49, 79, 80, 5, 81, 82, 83, 84, 85, 86, 87, 88, 579, 580, 581, 582, 583, 584, 585, 586, 587] (by decide +kernel) (by decide +kernel)
set_option maxRecDepth 20000 in
theorem gL_law_X4_set : GoodIn wsL_law (wsV RL 82 RX4 yX4_set wsX4_set) := goodIn_app (goodIn_of _ (by decide +kernel)) ggL_law_X4_set
set_option maxRecDepth 20000 in
theorem ggL_law_X4_thrown : GoodIn wsL_law wsX4_thrown := goodIn_r _ [92, 78, 579, 580, 581, 582, 583, 584, 585, 586, 587] (by decide +kernel) (by decide +kernel)
set_option maxRecDepth 20000 in
theorem gL_law_X4_thrown : GoodIn wsL_law (wsV RL 83 RX4 yX4_thrown wsX4_thrown) := goodIn_app (goodIn_of _ (by decide +kernel)) ggL_law_X4_thrown
set_option maxRecDepth 20000 in
theorem ggL_law_L_setGust : GoodIn wsL_law wsL_setGust := goodIn_ca (goodIn_ca (goodIn_r _ [95, 58, 59, 96, 97, 98, 2, 99, 64, 65, 66, 67, 16, 71, 72, 73, 567, 568, 569, 570, 571, 572, 573, 574, 575, 576, 577, 578] (by decide +kernel) (by decide +kernel)) (goodIn_sub (fun _ h => List.mem_append_left _ (List.mem_append_left _ (List.mem_append_right _ h))) (by decide +kernel))) (goodIn_sub (fun _ h => List.mem_append_left _ (List.mem_append_right _ h)) (by decide +kernel))
set_option maxRecDepth 20000 in
theorem gL_law_L_setGust : GoodIn wsL_law (va_wsS RL 87 yL_setGust wsL_setGust) := goodIn_app (goodIn_of _ (by decide +kernel)) ggL_law_L_setGust
set_option maxRecDepth 20000 in
theorem ggL_law_X4_setGust : GoodIn wsL_law wsX4_setGust := goodIn_r _ [103, 78, 50, 82, 83, 5, 84, 85, 86, 87, 88, 579, 580, 581, 582, 583, 584, 585, 586, 587] (by decide +kernel) (by decide +kernel)
set_option maxRecDepth 20000 in
theorem gL_law_X4_setGust : GoodIn wsL_law (wsV RL 90 RX4 yX4_setGust wsX4_setGust) := goodIn_app (goodIn_of _ (by decide +kernel)) ggL_law_X4_setGust
set_option maxRecDepth 20000 in
theorem ggL_law_L_build : GoodIn wsL_law wsL_build := goodIn_ca (goodIn_ca (goodIn_r _ [106, 59, 107, 108, 109, 110, 2, 111, 66, 67, 112, 113, 114, 18, 71, 72, 73, 567, 568, 569, 570, 571, 572, 573, 574, 575, 576, 577, 578, 590, 591, 592, 593, 594] (by decide +kernel) (by decide +kernel)) (goodIn_sub (fun _ h => List.mem_append_left _ (List.mem_append_right _ h)) (by decide +kernel))) (goodIn_sub (fun _ h => List.mem_append_right _ h) (by decide +kernel))
set_option maxRecDepth 20000 in
theorem gL_law_L_build : GoodIn wsL_law (va_wsS RL 91 yL_build wsL_build) := goodIn_app (goodIn_of _ (by decide +kernel)) ggL_law_L_build
set_option maxRecDepth 20000 in
theorem ggL_law_X4_build : GoodIn wsL_law wsX4_build := goodIn_r _ [118, 78, 119, 82, 83, 5, 84, 85, 86, 87, 88, 120, 121, 122, 123, 51, 579, 580, 581, 582, 583, 584, 585, 586, 587] (by decide +kernel) (by decide +kernel)
set_option maxRecDepth 20000 in
theorem gL_law_X4_build : GoodIn wsL_law (wsV RL 94 RX4 yX4_build wsX4_build) := goodIn_app (goodIn_of _ (by decide +kernel)) ggL_law_X4_build
set_option maxRecDepth 20000 in
theorem ggL_law_L_fill : GoodIn wsL_law wsL_fill := goodIn_ca (goodIn_ca (goodIn_r _ [126, 58, 107, 127, 128, 129, 2, 130, 64, 65, 112, 113, 18, 14, 131, 132, 133, 134, 114, 68, 69, 70, 71, 72, 73, 135, 136, 137, 26, 138, 139, 140, 141, 142, 143, 144, 15, 145, 146, 147, 148, 38, 149, 150, 151, 152, 567, 568, 569, 570, 571, 572, 573, 574, 575, 576, 577, 578, 590, 591, 592, 593, 594] (by decide +kernel) (by decide +kernel)) (goodIn_sub (fun _ h => List.mem_append_left _ (List.mem_append_left _ (List.mem_append_right _ h))) (by decide +kernel))) (goodIn_sub (fun _ h => List.mem_append_right _ h) (by decide +kernel))
set_option maxRecDepth 20000 in
theorem gL_law_L_fill : GoodIn wsL_law (va_wsS RL 95 yL_fill wsL_fill) := goodIn_app (goodIn_of _ (by decide +kernel)) ggL_law_L_fill
set_option maxRecDepth 20000 in
theorem ggL_law_X4_fill : GoodIn wsL_law wsX4_fill := goodIn_r _ [156, 78, 48, 49, 157, 158, 159, 5, 160, 119, 82, 83, 84, 79, 80, 81, 85, 86, 87, 88, 161, 162, 163, 164, 51, 120, 121, 122, 123, 165, 166, 167, 579, 580, 581, 582, 583, 584, 585, 586, 587] (by decide +kernel) (by decide +kernel)
set_option maxRecDepth 20000 in
theorem gL_law_X4_fill : GoodIn wsL_law (wsV RL 97 RX4 yX4_fill wsX4_fill) := goodIn_app (goodIn_of _ (by decide +kernel)) ggL_law_X4_fill
set_option maxRecDepth 20000 in
theorem ggL_law_L_go : GoodIn wsL_law wsL_go := goodIn_ca (goodIn_ca (goodIn_r _ [170, 58, 107, 171, 172, 173, 2, 174, 64, 65, 112, 113, 18, 131, 132, 133, 134, 114, 567, 568, 569, 570, 571, 572, 573, 574, 575, 576, 577, 578, 590, 591, 592, 593, 594] (by decide +kernel) (by decide +kernel)) (goodIn_sub (fun _ h => List.mem_append_left _ (List.mem_append_left _ (List.mem_append_right _ h))) (by decide +kernel))) (goodIn_sub (fun _ h => List.mem_append_right _ h) (by decide +kernel))
set_option maxRecDepth 20000 in
theorem gL_law_L_go : GoodIn wsL_law (va_wsS RL 98 yL_go wsL_go) := goodIn_app (goodIn_of _ (by decide +kernel)) ggL_law_L_go
set_option maxRecDepth 20000 in
theorem ggL_law_X4_go : GoodIn wsL_law wsX4_go := goodIn_r _ [178, 78, 157, 158, 159, 5, 160, 119, 82, 83, 84, 85, 86, 87, 88, 161, 162, 163, 164, 51, 120, 121, 122, 123, 579, 580, 581, 582, 583, 584, 585, 586, 587] (by decide +kernel) (by decide +kernel)
set_option maxRecDepth 20000 in
theorem gL_law_X4_go : GoodIn wsL_law (wsV RL 100 RX4 yX4_go wsX4_go) := goodIn_app (goodIn_of _ (by decide +kernel)) ggL_law_X4_go
set_option maxRecDepth 20000 in
theorem ggL_law_L_launch : GoodIn wsL_law wsL_launch := goodIn_ca (goodIn_ca (goodIn_r _ [181, 59, 107, 182, 183, 184, 2, 185, 66, 67, 112, 113, 186, 20, 71, 72, 73, 567, 568, 569, 570, 571, 572, 573, 574, 575, 576, 577, 578, 595, 596, 597] (by decide +kernel) (by decide +kernel)) (goodIn_sub (fun _ h => List.mem_append_left _ (List.mem_append_right _ h)) (by decide +kernel))) (goodIn_sub (fun _ h => List.mem_append_right _ h) (by decide +kernel))
set_option maxRecDepth 20000 in
theorem gL_law_L_launch : GoodIn wsL_law (va_wsS RL 101 yL_launch wsL_launch) := goodIn_app (goodIn_of _ (by decide +kernel)) ggL_law_L_launch
set_option maxRecDepth 20000 in
theorem ggL_law_X4_launch : GoodIn wsL_law wsX4_launch := goodIn_r _ [190, 78, 191, 52, 82, 83, 5, 84, 85, 86, 87, 88, 579, 580, 581, 582, 583, 584, 585, 586, 587] (by decide +kernel) (by decide +kernel)
set_option maxRecDepth 20000 in
theorem gL_law_X4_launch : GoodIn wsL_law (wsV RL 103 RX4 yX4_launch wsX4_launch) := goodIn_app (goodIn_of _ (by decide +kernel)) ggL_law_X4_launch
set_option maxRecDepth 20000 in
theorem ggL_law_L_stow : GoodIn wsL_law wsL_stow := goodIn_ca (goodIn_ca (goodIn_r _ [194, 58, 107, 195, 196, 197, 2, 198, 64, 65, 112, 113, 20, 24, 199, 200, 201, 202, 186, 203, 204, 205, 71, 72, 73, 206, 207, 208, 209, 210, 211, 30, 212, 213, 214, 215, 216, 217, 218, 219, 567, 568, 569, 570, 571, 572, 573, 574, 575, 576, 577, 578, 588, 589, 595, 596, 597] (by decide +kernel) (by decide +kernel)) (goodIn_sub (fun _ h => List.mem_append_left _ (List.mem_append_left _ (List.mem_append_right _ h))) (by decide +kernel))) (goodIn_sub (fun _ h => List.mem_append_right _ h) (by decide +kernel))
set_option maxRecDepth 20000 in
theorem gL_law_L_stow : GoodIn wsL_law (va_wsS RL 104 yL_stow wsL_stow) := goodIn_app (goodIn_of _ (by decide +kernel)) ggL_law_L_stow
set_option maxRecDepth 20000 in
theorem ggL_law_X4_stow : GoodIn wsL_law wsX4_stow := goodIn_r _ [223, 78, 53, 52, 224, 225, 226, 5, 227, 191, 82, 83, 84, 85, 86, 87, 88, 228, 229, 230, 231, 232, 233, 234, 235, 236, 237, 238, 579, 580, 581, 582, 583, 584, 585, 586, 587] (by decide +kernel) (by decide +kernel)
set_option maxRecDepth 20000 in
theorem gL_law_X4_stow : GoodIn wsL_law (wsV RL 107 RX4 yX4_stow wsX4_stow) := goodIn_app (goodIn_of _ (by decide +kernel)) ggL_law_X4_stow
set_option maxRecDepth 20000 in
theorem ggL_law_L_sail : GoodIn wsL_law wsL_sail := goodIn_ca (goodIn_ca (goodIn_r _ [241, 58, 107, 242, 243, 244, 2, 245, 64, 65, 112, 113, 20, 246, 199, 200, 201, 202, 186, 247, 248, 249, 30, 250, 251, 252, 253, 254, 214, 215, 255, 256, 257, 258, 259, 260, 261, 217, 218, 219, 72, 73, 262, 263, 264, 265, 567, 568, 569, 570, 571, 572, 573, 574, 575, 576, 577, 578, 595, 596, 597] (by decide +kernel) (by decide +kernel)) (goodIn_sub (fun _ h => List.mem_append_left _ (List.mem_append_left _ (List.mem_append_right _ h))) (by decide +kernel))) (goodIn_sub (fun _ h => List.mem_append_right _ h) (by decide +kernel))
set_option maxRecDepth 20000 in
theorem gL_law_L_sail : GoodIn wsL_law (va_wsS RL 108 yL_sail wsL_sail) := goodIn_app (goodIn_of _ (by decide +kernel)) ggL_law_L_sail
set_option maxRecDepth 20000 in
theorem ggL_law_X4_sail : GoodIn wsL_law wsX4_sail := goodIn_r _ [269, 78, 52, 53, 224, 225, 226, 5, 227, 191, 82, 83, 84, 85, 86, 87, 88, 270, 271, 272, 273, 232, 233, 234, 235, 274, 275, 276, 277, 258, 259, 260, 228, 229, 230, 231, 579, 580, 581, 582, 583, 584, 585, 586, 587] (by decide +kernel) (by decide +kernel)
set_option maxRecDepth 20000 in
theorem gL_law_X4_sail : GoodIn wsL_law (wsV RL 110 RX4 yX4_sail wsX4_sail) := goodIn_app (goodIn_of _ (by decide +kernel)) ggL_law_X4_sail
set_option maxRecDepth 20000 in
theorem ggL_law_L_layer : GoodIn wsL_law wsL_layer := goodIn_ca (goodIn_r _ [280, 58, 281, 282, 283, 2, 284, 64, 65, 14, 15, 68, 69, 70, 71, 72, 73, 141, 142, 143, 144, 150, 151, 152, 567, 568, 569, 570, 571, 572, 573, 574, 575, 576, 577, 578] (by decide +kernel) (by decide +kernel)) (goodIn_sub (fun _ h => List.mem_append_left _ (List.mem_append_left _ (List.mem_append_right _ h))) (by decide +kernel))
set_option maxRecDepth 20000 in
theorem gL_law_L_layer : GoodIn wsL_law (va_wsS RL 111 yL_layer wsL_layer) := goodIn_app (goodIn_of _ (by decide +kernel)) ggL_law_L_layer
set_option maxRecDepth 20000 in
theorem ggL_law_X4_layer : GoodIn wsL_law wsX4_layer := goodIn_r _ [288, 78, 79, 80, 5, 81, 82, 83, 84, 289, 290, 291, 292, 48, 49, 165, 166, 167, 85, 86, 87, 88, 579, 580, 581, 582, 583, 584, 585, 586, 587] (by decide +kernel) (by decide +kernel)
set_option maxRecDepth 20000 in
theorem gL_law_X4_layer : GoodIn wsL_law (wsV RL 113 RX4 yX4_layer wsX4_layer) := goodIn_app (goodIn_of _ (by decide +kernel)) ggL_law_X4_layer
set_option maxRecDepth 20000 in
theorem ggL_law_L_told : GoodIn wsL_law wsL_told := goodIn_ca (goodIn_r _ [295, 58, 296, 297, 298, 2, 299, 64, 65, 18, 131, 132, 133, 134, 114, 71, 72, 73, 300, 301, 302, 26, 303, 139, 38, 304, 305, 306, 307, 151, 152, 567, 568, 569, 570, 571, 572, 573, 574, 575, 576, 577, 578, 590, 591, 592, 593, 594] (by decide +kernel) (by decide +kernel)) (goodIn_sub (fun _ h => List.mem_append_left _ (List.mem_append_left _ (List.mem_append_right _ h))) (by decide +kernel))
set_option maxRecDepth 20000 in
theorem gL_law_L_told : GoodIn wsL_law (va_wsS RL 114 yL_told wsL_told) := goodIn_app (goodIn_of _ (by decide +kernel)) ggL_law_L_told
set_option maxRecDepth 20000 in
theorem ggL_law_X4_told : GoodIn wsL_law wsX4_told := goodIn_r _ [311, 78, 157, 158, 159, 5, 160, 119, 82, 83, 84, 312, 313, 314, 315, 161, 162, 163, 164, 51, 165, 166, 167, 85, 86, 87, 88, 579, 580, 581, 582, 583, 584, 585, 586, 587] (by decide +kernel) (by decide +kernel)
set_option maxRecDepth 20000 in
theorem gL_law_X4_told : GoodIn wsL_law (wsV RL 116 RX4 yX4_told wsX4_told) := goodIn_app (goodIn_of _ (by decide +kernel)) ggL_law_X4_told
set_option maxRecDepth 20000 in
theorem ggL_law_L_boat : GoodIn wsL_law wsL_boat := goodIn_ca (goodIn_r _ [318, 58, 319, 320, 321, 2, 322, 64, 65, 20, 199, 200, 201, 202, 186, 71, 72, 73, 216, 217, 218, 30, 219, 214, 215, 323, 252, 253, 254, 255, 256, 257, 258, 259, 260, 247, 248, 249, 250, 251, 261, 209, 210, 211, 212, 213, 567, 568, 569, 570, 571, 572, 573, 574, 575, 576, 577, 578, 595, 596, 597] (by decide +kernel) (by decide +kernel)) (goodIn_sub (fun _ h => List.mem_append_left _ (List.mem_append_left _ (List.mem_append_right _ h))) (by decide +kernel))
set_option maxRecDepth 20000 in
theorem gL_law_L_boat : GoodIn wsL_law (va_wsS RL 117 yL_boat wsL_boat) := goodIn_app (goodIn_of _ (by decide +kernel)) ggL_law_L_boat
set_option maxRecDepth 20000 in
theorem ggL_law_X4_boat : GoodIn wsL_law wsX4_boat := goodIn_r _ [327, 78, 224, 225, 226, 5, 227, 191, 82, 83, 84, 328, 329, 330, 331, 232, 233, 234, 235, 52, 274, 275, 276, 277, 258, 259, 260, 270, 271, 272, 273, 228, 229, 230, 231, 85, 86, 87, 88, 579, 580, 581, 582, 583, 584, 585, 586, 587] (by decide +kernel) (by decide +kernel)
set_option maxRecDepth 20000 in
theorem gL_law_X4_boat : GoodIn wsL_law (wsV RL 119 RX4 yX4_boat wsX4_boat) := goodIn_app (goodIn_of _ (by decide +kernel)) ggL_law_X4_boat
set_option maxRecDepth 20000 in
theorem ggL_law_L_beach : GoodIn wsL_law wsL_beach := goodIn_ca (goodIn_r _ [334, 58, 335, 336, 337, 2, 338, 64, 65, 24, 203, 204, 205, 71, 72, 73, 567, 568, 569, 570, 571, 572, 573, 574, 575, 576, 577, 578, 588, 589] (by decide +kernel) (by decide +kernel)) (goodIn_sub (fun _ h => List.mem_append_left _ (List.mem_append_left _ (List.mem_append_right _ h))) (by decide +kernel))
set_option maxRecDepth 20000 in
theorem gL_law_L_beach : GoodIn wsL_law (va_wsS RL 120 yL_beach wsL_beach) := goodIn_app (goodIn_of _ (by decide +kernel)) ggL_law_L_beach
set_option maxRecDepth 20000 in
theorem ggL_law_X4_beach : GoodIn wsL_law wsX4_beach := goodIn_r _ [342, 78, 53, 82, 83, 5, 84, 85, 86, 87, 88, 579, 580, 581, 582, 583, 584, 585, 586, 587] (by decide +kernel) (by decide +kernel)
set_option maxRecDepth 20000 in
theorem gL_law_X4_beach : GoodIn wsL_law (wsV RL 122 RX4 yX4_beach wsX4_beach) := goodIn_app (goodIn_of _ (by decide +kernel)) ggL_law_X4_beach
set_option maxRecDepth 20000 in
theorem ggL_law_L_count : GoodIn wsL_law wsL_count := goodIn_ca (goodIn_r _ [345, 58, 346, 347, 348, 2, 349, 64, 65, 350, 114, 186, 246, 24, 71, 72, 73, 351, 352, 353, 354, 16, 355, 356, 357, 358, 359, 360, 361, 362, 18, 363, 364, 365, 23, 366, 34, 367, 368, 369, 370, 14, 567, 568, 569, 570, 571, 572, 573, 574, 575, 576, 577, 578, 588, 589, 590, 591, 592, 593, 594] (by decide +kernel) (by decide +kernel)) (goodIn_sub (fun _ h => List.mem_append_left _ (List.mem_append_left _ (List.mem_append_right _ h))) (by decide +kernel))
set_option maxRecDepth 20000 in
theorem gL_law_L_count : GoodIn wsL_law (va_wsS RL 123 yL_count wsL_count) := goodIn_app (goodIn_of _ (by decide +kernel)) ggL_law_L_count
set_option maxRecDepth 20000 in
theorem ggL_law_X4_count : GoodIn wsL_law wsX4_count := goodIn_r _ [374, 78, 82, 83, 5, 84, 375, 376, 377, 378, 53, 119, 191, 48, 379, 380, 381, 382, 50, 383, 384, 385, 386, 161, 162, 163, 164, 51, 387, 388, 389, 390, 85, 86, 87, 88, 579, 580, 581, 582, 583, 584, 585, 586, 587] (by decide +kernel) (by decide +kernel)
set_option maxRecDepth 20000 in
theorem gL_law_X4_count : GoodIn wsL_law (wsV RL 125 RX4 yX4_count wsX4_count) := goodIn_app (goodIn_of _ (by decide +kernel)) ggL_law_X4_count
set_option maxRecDepth 20000 in
theorem ggL_law_L_pass : GoodIn wsL_law wsL_pass := goodIn_ca (goodIn_r _ [393, 59, 394, 395, 396, 2, 397, 66, 67, 24, 71, 72, 73, 363, 364, 365, 23, 366, 34, 398, 399, 400, 401, 350, 114, 18, 351, 352, 353, 354, 16, 355, 356, 357, 358, 402, 403, 404, 26, 405, 40, 406, 407, 408, 409, 139, 39, 410, 411, 259, 412, 413, 414, 415, 416, 38, 151, 152, 417, 418, 419, 420, 421, 422, 423, 567, 568, 569, 570, 571, 572, 573, 574, 575, 576, 577, 578, 588, 589, 590, 591, 592, 593, 594] (by decide +kernel) (by decide +kernel)) (goodIn_sub (fun _ h => List.mem_append_left _ (List.mem_append_right _ h)) (by decide +kernel))
set_option maxRecDepth 20000 in
theorem gL_law_L_pass : GoodIn wsL_law (va_wsS RL 126 yL_pass wsL_pass) := goodIn_app (goodIn_of _ (by decide +kernel)) ggL_law_L_pass
set_option maxRecDepth 20000 in
theorem ggL_law_X4_pass : GoodIn wsL_law wsX4_pass := goodIn_r _ [427, 78, 82, 83, 5, 84, 428, 429, 430, 431, 387, 388, 389, 390, 53, 432, 433, 434, 435, 119, 161, 162, 163, 164, 51, 436, 437, 438, 439, 440, 411, 259, 412, 379, 380, 381, 382, 50, 120, 121, 122, 123, 441, 442, 443, 444, 445, 422, 423, 446, 447, 448, 449, 165, 166, 167, 85, 86, 87, 88, 579, 580, 581, 582, 583, 584, 585, 586, 587] (by decide +kernel) (by decide +kernel)
set_option maxRecDepth 20000 in
theorem gL_law_X4_pass : GoodIn wsL_law (wsV RL 128 RX4 yX4_pass wsX4_pass) := goodIn_app (goodIn_of _ (by decide +kernel)) ggL_law_X4_pass
set_option maxRecDepth 20000 in
theorem ggL_law_L_back : GoodIn wsL_law wsL_back := goodIn_ca (goodIn_r _ [452, 58, 453, 454, 455, 2, 456, 64, 65, 27, 18, 350, 28, 131, 132, 133, 134, 114, 457, 458, 459, 26, 460, 140, 38, 461, 462, 463, 464, 139, 39, 40, 351, 352, 353, 354, 16, 355, 356, 357, 358, 402, 403, 404, 405, 406, 407, 408, 409, 410, 411, 259, 412, 413, 414, 415, 416, 151, 152, 417, 418, 419, 420, 421, 422, 423, 567, 568, 569, 570, 571, 572, 573, 574, 575, 576, 577, 578, 590, 591, 592, 593, 594, 588, 589] (by decide +kernel) (by decide +kernel)) (goodIn_sub (fun _ h => List.mem_append_left _ (List.mem_append_left _ (List.mem_append_right _ h))) (by decide +kernel))
set_option maxRecDepth 20000 in
theorem gL_law_L_back : GoodIn wsL_law (va_wsS RL 129 yL_back wsL_back) := goodIn_app (goodIn_of _ (by decide +kernel)) ggL_law_L_back
set_option maxRecDepth 20000 in
theorem ggL_law_X4_back : GoodIn wsL_law wsX4_back := goodIn_r _ [468, 78, 157, 158, 159, 5, 160, 119, 82, 83, 84, 85, 86, 87, 88, 469, 470, 471, 472, 473, 51, 474, 475, 476, 477, 478, 53, 161, 162, 163, 164, 432, 433, 434, 435, 436, 437, 438, 439, 440, 411, 259, 412, 379, 380, 381, 382, 50, 120, 121, 122, 123, 441, 442, 443, 444, 445, 422, 423, 446, 447, 448, 449, 165, 166, 167, 479, 480, 481, 482, 483, 462, 463, 464, 579, 580, 581, 582, 583, 584, 585, 586, 587] (by decide +kernel) (by decide +kernel)
set_option maxRecDepth 20000 in
theorem gL_law_X4_back : GoodIn wsL_law (wsV RL 131 RX4 yX4_back wsX4_back) := goodIn_app (goodIn_of _ (by decide +kernel)) ggL_law_X4_back
set_option maxRecDepth 20000 in
theorem ggL_law_L_arrives : GoodIn wsL_law wsL_arrives := goodIn_ca (goodIn_r _ [486, 58, 487, 488, 489, 2, 490, 64, 65, 27, 18, 28, 350, 131, 132, 133, 134, 114, 457, 458, 459, 26, 460, 140, 38, 461, 462, 463, 464, 139, 39, 40, 363, 364, 365, 23, 366, 34, 351, 352, 353, 354, 16, 355, 356, 357, 358, 402, 403, 404, 405, 406, 407, 408, 409, 410, 411, 259, 412, 413, 414, 415, 416, 151, 152, 417, 418, 419, 420, 421, 422, 423, 567, 568, 569, 570, 571, 572, 573, 574, 575, 576, 577, 578, 590, 591, 592, 593, 594, 588, 589] (by decide +kernel) (by decide +kernel)) (goodIn_sub (fun _ h => List.mem_append_left _ (List.mem_append_left _ (List.mem_append_right _ h))) (by decide +kernel))
set_option maxRecDepth 20000 in
theorem gL_law_L_arrives : GoodIn wsL_law (va_wsS RL 132 yL_arrives wsL_arrives) := goodIn_app (goodIn_of _ (by decide +kernel)) ggL_law_L_arrives
set_option maxRecDepth 20000 in
theorem ggL_law_X4_arrives : GoodIn wsL_law wsX4_arrives := goodIn_r _ [494, 78, 53, 157, 158, 159, 5, 160, 119, 82, 83, 84, 85, 86, 87, 88, 161, 162, 163, 164, 51, 469, 470, 471, 472, 473, 474, 475, 476, 477, 478, 120, 121, 122, 123, 436, 437, 438, 439, 440, 411, 259, 412, 379, 380, 381, 382, 50, 479, 480, 481, 482, 483, 462, 463, 464, 579, 580, 581, 582, 583, 584, 585, 586, 587] (by decide +kernel) (by decide +kernel)
set_option maxRecDepth 20000 in
theorem gL_law_X4_arrives : GoodIn wsL_law (wsV RL 134 RX4 yX4_arrives wsX4_arrives) := goodIn_app (goodIn_of _ (by decide +kernel)) ggL_law_X4_arrives
set_option maxRecDepth 20000 in
theorem ggL_law_L_advise : GoodIn wsL_law wsL_advise := goodIn_ca (goodIn_r _ [497, 58, 498, 499, 500, 2, 501, 64, 65, 20, 199, 200, 201, 202, 186, 203, 204, 205, 71, 72, 73, 206, 207, 208, 209, 210, 211, 30, 212, 213, 214, 215, 502, 255, 256, 257, 258, 259, 260, 567, 568, 569, 570, 571, 572, 573, 574, 575, 576, 577, 578, 595, 596, 597] (by decide +kernel) (by decide +kernel)) (goodIn_sub (fun _ h => List.mem_append_left _ (List.mem_append_left _ (List.mem_append_right _ h))) (by decide +kernel))
set_option maxRecDepth 20000 in
theorem gL_law_L_advise : GoodIn wsL_law (va_wsS RL 135 yL_advise wsL_advise) := goodIn_app (goodIn_of _ (by decide +kernel)) ggL_law_L_advise
set_option maxRecDepth 20000 in
theorem ggL_law_X4_advise : GoodIn wsL_law wsX4_advise := goodIn_r _ [506, 78, 224, 225, 226, 5, 227, 191, 82, 83, 84, 85, 86, 87, 88, 228, 229, 230, 231, 232, 233, 234, 235, 52, 236, 237, 238, 274, 275, 276, 277, 258, 259, 260, 579, 580, 581, 582, 583, 584, 585, 586, 587] (by decide +kernel) (by decide +kernel)
set_option maxRecDepth 20000 in
theorem gL_law_X4_advise : GoodIn wsL_law (wsV RL 137 RX4 yX4_advise wsX4_advise) := goodIn_app (goodIn_of _ (by decide +kernel)) ggL_law_X4_advise
set_option maxRecDepth 20000 in
theorem ggL_law_L_foresee : GoodIn wsL_law wsL_foresee := goodIn_ca (goodIn_ca (goodIn_r _ [509, 59, 58, 510, 511, 512, 2, 513, 66, 67, 64, 65, 28, 24, 114, 18, 71, 72, 73, 514, 515, 516, 23, 517, 34, 518, 462, 463, 464, 519, 520, 521, 522, 523, 27, 350, 457, 458, 459, 26, 460, 140, 38, 461, 139, 39, 40, 351, 352, 353, 354, 16, 355, 356, 357, 358, 402, 403, 404, 405, 406, 407, 408, 409, 410, 411, 259, 412, 413, 414, 415, 416, 151, 152, 417, 418, 419, 420, 421, 422, 423, 363, 364, 365, 366, 567, 568, 569, 570, 571, 572, 573, 574, 575, 576, 577, 578, 588, 589, 590, 591, 592, 593, 594] (by decide +kernel) (by decide +kernel)) (goodIn_sub (fun _ h => List.mem_append_left _ (List.mem_append_right _ h)) (by decide +kernel))) (goodIn_sub (fun _ h => List.mem_append_left _ (List.mem_append_left _ (List.mem_append_right _ h))) (by decide +kernel))
set_option maxRecDepth 20000 in
theorem gL_law_L_foresee : GoodIn wsL_law (va_wsS RL 138 yL_foresee wsL_foresee) := goodIn_app (goodIn_of _ (by decide +kernel)) ggL_law_L_foresee
set_option maxRecDepth 20000 in
theorem ggL_law_X4_foresee : GoodIn wsL_law wsX4_foresee := goodIn_r _ [527, 78, 82, 83, 5, 84, 85, 86, 87, 88, 469, 470, 471, 472, 473, 51, 474, 475, 476, 477, 478, 53, 428, 429, 430, 431, 387, 388, 389, 390, 432, 433, 434, 435, 119, 161, 162, 163, 164, 436, 437, 438, 439, 440, 411, 259, 412, 379, 380, 381, 382, 50, 120, 121, 122, 123, 441, 442, 443, 444, 445, 422, 423, 446, 447, 448, 449, 165, 166, 167, 375, 376, 377, 378, 191, 48, 383, 384, 385, 386, 479, 480, 481, 482, 483, 462, 463, 464, 579, 580, 581, 582, 583, 584, 585, 586, 587] (by decide +kernel) (by decide +kernel)
set_option maxRecDepth 20000 in
theorem gL_law_X4_foresee : GoodIn wsL_law (wsV RL 140 RX4 yX4_foresee wsX4_foresee) := goodIn_app (goodIn_of _ (by decide +kernel)) ggL_law_X4_foresee
set_option maxRecDepth 20000 in
theorem ggL_law_X3_mean : GoodIn wsL_law wsX3_mean := goodIn_r _ [531, 114, 18, 359, 360, 361, 2, 362, 300, 301, 302, 26, 303, 139, 38, 567, 568, 569, 570, 571, 572, 573, 574, 575, 576, 577, 578, 590, 591, 592, 593, 594] (by decide +kernel) (by decide +kernel)
set_option maxRecDepth 20000 in
theorem gL_law_X3_mean : GoodIn wsL_law (wsV RL 141 RX3 yX3_mean wsX3_mean) := goodIn_app (goodIn_of _ (by decide +kernel)) ggL_law_X3_mean
set_option maxRecDepth 20000 in
theorem ggL_law_X4_mean : GoodIn wsL_law wsX4_mean := goodIn_r _ [535, 78, 119, 312, 313, 314, 5, 315, 161, 162, 163, 164, 51, 165, 166, 167, 383, 384, 385, 386, 579, 580, 581, 582, 583, 584, 585, 586, 587] (by decide +kernel) (by decide +kernel)
set_option maxRecDepth 20000 in
theorem gL_law_X4_mean : GoodIn wsL_law (wsV RL 145 RX4 yX4_mean wsX4_mean) := goodIn_app (goodIn_of _ (by decide +kernel)) ggL_law_X4_mean
set_option maxRecDepth 20000 in
theorem ggL_law_X3_digest : GoodIn wsL_law wsX3_digest := goodIn_ca (goodIn_r _ [539, 540, 16, 114, 186, 24, 541, 347, 348, 2, 349, 64, 65, 350, 246, 71, 72, 73, 351, 352, 353, 354, 355, 356, 357, 358, 359, 360, 361, 362, 18, 363, 364, 365, 23, 366, 34, 367, 368, 369, 370, 14, 542, 543, 544, 545, 546, 547, 548, 549, 550, 282, 283, 284, 15, 68, 69, 70, 141, 142, 143, 144, 150, 151, 152, 551, 552, 553, 554, 555, 297, 298, 299, 131, 132, 133, 134, 300, 301, 302, 26, 303, 139, 38, 304, 305, 306, 307, 556, 557, 558, 559, 560, 320, 321, 322, 20, 199, 200, 201, 202, 216, 217, 218, 30, 219, 214, 215, 323, 252, 253, 254, 255, 256, 257, 258, 259, 260, 247, 248, 249, 250, 251, 261, 209, 210, 211, 212, 213, 567, 568, 569, 570, 571, 572, 573, 574, 575, 576, 577, 578, 588, 589, 590, 591, 592, 593, 594, 595, 596, 597] (by decide +kernel) (by decide +kernel)) (goodIn_sub (fun _ h => List.mem_append_left _ (List.mem_append_left _ (List.mem_append_right _ h))) (by decide +kernel))
set_option maxRecDepth 20000 in
theorem gL_law_X3_digest : GoodIn wsL_law (wsV RL 146 RX3 yX3_digest wsX3_digest) := goodIn_app (goodIn_of _ (by decide +kernel)) ggL_law_X3_digest
set_option maxRecDepth 20000 in
theorem ggL_law_X4_digest : GoodIn wsL_law wsX4_digest := goodIn_r _ [564, 78, 565, 566, 50, 119, 191, 53, 375, 376, 377, 5, 378, 48, 379, 380, 381, 382, 383, 384, 385, 386, 161, 162, 163, 164, 51, 387, 388, 389, 390, 289, 290, 291, 292, 49, 165, 166, 167, 312, 313, 314, 315, 328, 329, 330, 331, 232, 233, 234, 235, 52, 274, 275, 276, 277, 258, 259, 260, 270, 271, 272, 273, 82, 83, 84, 228, 229, 230, 231, 579, 580, 581, 582, 583, 584, 585, 586, 587] (by decide +kernel) (by decide +kernel)
set_option maxRecDepth 20000 in
theorem gL_law_X4_digest : GoodIn wsL_law (wsV RL 150 RX4 yX4_digest wsX4_digest) := goodIn_app (goodIn_of _ (by decide +kernel)) ggL_law_X4_digest
theorem dL_law_0 : decode cL_law 0 = .ok (.new 8, 3) := by decide +kernel
theorem dL_law_3 : decode cL_law 3 = .ok (.dup, 1) := by decide +kernel
theorem dL_law_4 : decode cL_law 4 = .ok (.invokespecial 73, 3) := by decide +kernel
theorem dL_law_7 : decode cL_law 7 = .ok (.astore_n 1, 1) := by decide +kernel
theorem dL_law_8 : decode cL_law 8 = .ok (.new 74, 3) := by decide +kernel
theorem dL_law_11 : decode cL_law 11 = .ok (.dup, 1) := by decide +kernel
theorem dL_law_12 : decode cL_law 12 = .ok (.invokespecial 76, 3) := by decide +kernel
theorem dL_law_15 : decode cL_law 15 = .ok (.astore_n 2, 1) := by decide +kernel
theorem dL_law_16 : decode cL_law 16 = .ok (.iconst 1, 1) := by decide +kernel
theorem dL_law_17 : decode cL_law 17 = .ok (.newarray .long, 2) := by decide +kernel
theorem dL_law_19 : decode cL_law 19 = .ok (.astore_n 3, 1) := by decide +kernel
theorem dL_law_20 : decode cL_law 20 = .ok (.iconst 0, 1) := by decide +kernel
theorem dL_law_21 : decode cL_law 21 = .ok (.istore 4, 2) := by decide +kernel
theorem dL_law_23 : decode cL_law 23 = .ok (.iload 4, 2) := by decide +kernel
theorem dL_law_25 : decode cL_law 25 = .ok (.aload_n 0, 1) := by decide +kernel
theorem dL_law_26 : decode cL_law 26 = .ok (.arraylength, 1) := by decide +kernel
theorem dL_law_27 : decode cL_law 27 = .ok (.iconst 4, 1) := by decide +kernel
theorem dL_law_28 : decode cL_law 28 = .ok (.isub, 1) := by decide +kernel
theorem dL_law_29 : decode cL_law 29 = .ok (.if_icmp .gt 1320, 3) := by decide +kernel
theorem dL_law_32 : decode cL_law 32 = .ok (.aload_n 0, 1) := by decide +kernel
theorem dL_law_33 : decode cL_law 33 = .ok (.iload 4, 2) := by decide +kernel
theorem dL_law_35 : decode cL_law 35 = .ok (.iaload, 1) := by decide +kernel
theorem dL_law_36 : decode cL_law 36 = .ok (.bipush 31, 2) := by decide +kernel
theorem dL_law_38 : decode cL_law 38 = .ok (.iand, 1) := by decide +kernel
theorem dL_law_39 : decode cL_law 39 = .ok (.tableswitch 1304 0 19 #[93, 173, 241, 297, 365, 421, 477, 573, 629, 697, 765, 833, 889, 945, 1001, 1057, 1113, 1181, 1249, 1290], 93) := by decide +kernel
theorem dL_law_132 : decode cL_law 132 = .ok (.aload_n 1, 1) := by decide +kernel
theorem dL_law_133 : decode cL_law 133 = .ok (.aload_n 0, 1) := by decide +kernel
theorem dL_law_134 : decode cL_law 134 = .ok (.iload 4, 2) := by decide +kernel
theorem dL_law_136 : decode cL_law 136 = .ok (.iconst 1, 1) := by decide +kernel
theorem dL_law_137 : decode cL_law 137 = .ok (.iadd, 1) := by decide +kernel
theorem dL_law_138 : decode cL_law 138 = .ok (.iaload, 1) := by decide +kernel
theorem dL_law_139 : decode cL_law 139 = .ok (.aload_n 0, 1) := by decide +kernel
theorem dL_law_140 : decode cL_law 140 = .ok (.iload 4, 2) := by decide +kernel
theorem dL_law_142 : decode cL_law 142 = .ok (.iconst 2, 1) := by decide +kernel
theorem dL_law_143 : decode cL_law 143 = .ok (.iadd, 1) := by decide +kernel
theorem dL_law_144 : decode cL_law 144 = .ok (.iaload, 1) := by decide +kernel
theorem dL_law_145 : decode cL_law 145 = .ok (.aload_n 0, 1) := by decide +kernel
theorem dL_law_146 : decode cL_law 146 = .ok (.iload 4, 2) := by decide +kernel
theorem dL_law_148 : decode cL_law 148 = .ok (.iconst 3, 1) := by decide +kernel
theorem dL_law_149 : decode cL_law 149 = .ok (.iadd, 1) := by decide +kernel
theorem dL_law_150 : decode cL_law 150 = .ok (.iaload, 1) := by decide +kernel
theorem dL_law_151 : decode cL_law 151 = .ok (.aload_n 3, 1) := by decide +kernel
theorem dL_law_152 : decode cL_law 152 = .ok (.invokestatic 77, 3) := by decide +kernel
theorem dL_law_155 : decode cL_law 155 = .ok (.istore 5, 2) := by decide +kernel
theorem dL_law_157 : decode cL_law 157 = .ok (.aload_n 2, 1) := by decide +kernel
theorem dL_law_158 : decode cL_law 158 = .ok (.aload_n 0, 1) := by decide +kernel
theorem dL_law_159 : decode cL_law 159 = .ok (.iload 4, 2) := by decide +kernel
theorem dL_law_161 : decode cL_law 161 = .ok (.iconst 1, 1) := by decide +kernel
theorem dL_law_162 : decode cL_law 162 = .ok (.iadd, 1) := by decide +kernel
theorem dL_law_163 : decode cL_law 163 = .ok (.iaload, 1) := by decide +kernel
theorem dL_law_164 : decode cL_law 164 = .ok (.aload_n 0, 1) := by decide +kernel
theorem dL_law_165 : decode cL_law 165 = .ok (.iload 4, 2) := by decide +kernel
theorem dL_law_167 : decode cL_law 167 = .ok (.iconst 2, 1) := by decide +kernel
theorem dL_law_168 : decode cL_law 168 = .ok (.iadd, 1) := by decide +kernel
theorem dL_law_169 : decode cL_law 169 = .ok (.iaload, 1) := by decide +kernel
theorem dL_law_170 : decode cL_law 170 = .ok (.aload_n 0, 1) := by decide +kernel
theorem dL_law_171 : decode cL_law 171 = .ok (.iload 4, 2) := by decide +kernel
theorem dL_law_173 : decode cL_law 173 = .ok (.iconst 3, 1) := by decide +kernel
theorem dL_law_174 : decode cL_law 174 = .ok (.iadd, 1) := by decide +kernel
theorem dL_law_175 : decode cL_law 175 = .ok (.iaload, 1) := by decide +kernel
theorem dL_law_176 : decode cL_law 176 = .ok (.invokevirtual 82, 3) := by decide +kernel
theorem dL_law_179 : decode cL_law 179 = .ok (.istore 6, 2) := by decide +kernel
theorem dL_law_181 : decode cL_law 181 = .ok (.aload_n 2, 1) := by decide +kernel
theorem dL_law_182 : decode cL_law 182 = .ok (.invokevirtual 83, 3) := by decide +kernel
theorem dL_law_185 : decode cL_law 185 = .ok (.iload 5, 2) := by decide +kernel
theorem dL_law_187 : decode cL_law 187 = .ok (.if_icmp .eq 5, 3) := by decide +kernel
theorem dL_law_190 : decode cL_law 190 = .ok (.iconst 0, 1) := by decide +kernel
theorem dL_law_191 : decode cL_law 191 = .ok (.ireturn, 1) := by decide +kernel
theorem dL_law_192 : decode cL_law 192 = .ok (.iload 5, 2) := by decide +kernel
theorem dL_law_194 : decode cL_law 194 = .ok (.ifCond .ne 15, 3) := by decide +kernel
theorem dL_law_197 : decode cL_law 197 = .ok (.aload_n 3, 1) := by decide +kernel
theorem dL_law_198 : decode cL_law 198 = .ok (.iconst 0, 1) := by decide +kernel
theorem dL_law_199 : decode cL_law 199 = .ok (.laload, 1) := by decide +kernel
theorem dL_law_200 : decode cL_law 200 = .ok (.iload 6, 2) := by decide +kernel
theorem dL_law_202 : decode cL_law 202 = .ok (.i2l, 1) := by decide +kernel
theorem dL_law_203 : decode cL_law 203 = .ok (.lcmp, 1) := by decide +kernel
theorem dL_law_204 : decode cL_law 204 = .ok (.ifCond .eq 5, 3) := by decide +kernel
theorem dL_law_207 : decode cL_law 207 = .ok (.iconst 0, 1) := by decide +kernel
theorem dL_law_208 : decode cL_law 208 = .ok (.ireturn, 1) := by decide +kernel
theorem dL_law_209 : decode cL_law 209 = .ok (.goto 1134, 3) := by decide +kernel
theorem dL_law_212 : decode cL_law 212 = .ok (.aload_n 1, 1) := by decide +kernel
theorem dL_law_213 : decode cL_law 213 = .ok (.aload_n 0, 1) := by decide +kernel
theorem dL_law_214 : decode cL_law 214 = .ok (.iload 4, 2) := by decide +kernel
theorem dL_law_216 : decode cL_law 216 = .ok (.iconst 1, 1) := by decide +kernel
theorem dL_law_217 : decode cL_law 217 = .ok (.iadd, 1) := by decide +kernel
theorem dL_law_218 : decode cL_law 218 = .ok (.iaload, 1) := by decide +kernel
theorem dL_law_219 : decode cL_law 219 = .ok (.aload_n 0, 1) := by decide +kernel
theorem dL_law_220 : decode cL_law 220 = .ok (.iload 4, 2) := by decide +kernel
theorem dL_law_222 : decode cL_law 222 = .ok (.iconst 2, 1) := by decide +kernel
theorem dL_law_223 : decode cL_law 223 = .ok (.iadd, 1) := by decide +kernel
theorem dL_law_224 : decode cL_law 224 = .ok (.iaload, 1) := by decide +kernel
theorem dL_law_225 : decode cL_law 225 = .ok (.aload_n 3, 1) := by decide +kernel
theorem dL_law_226 : decode cL_law 226 = .ok (.invokestatic 87, 3) := by decide +kernel
theorem dL_law_229 : decode cL_law 229 = .ok (.istore 5, 2) := by decide +kernel
theorem dL_law_231 : decode cL_law 231 = .ok (.aload_n 2, 1) := by decide +kernel
theorem dL_law_232 : decode cL_law 232 = .ok (.aload_n 0, 1) := by decide +kernel
theorem dL_law_233 : decode cL_law 233 = .ok (.iload 4, 2) := by decide +kernel
theorem dL_law_235 : decode cL_law 235 = .ok (.iconst 1, 1) := by decide +kernel
theorem dL_law_236 : decode cL_law 236 = .ok (.iadd, 1) := by decide +kernel
theorem dL_law_237 : decode cL_law 237 = .ok (.iaload, 1) := by decide +kernel
theorem dL_law_238 : decode cL_law 238 = .ok (.aload_n 0, 1) := by decide +kernel
theorem dL_law_239 : decode cL_law 239 = .ok (.iload 4, 2) := by decide +kernel
theorem dL_law_241 : decode cL_law 241 = .ok (.iconst 2, 1) := by decide +kernel
theorem dL_law_242 : decode cL_law 242 = .ok (.iadd, 1) := by decide +kernel
theorem dL_law_243 : decode cL_law 243 = .ok (.iaload, 1) := by decide +kernel
theorem dL_law_244 : decode cL_law 244 = .ok (.invokevirtual 90, 3) := by decide +kernel
theorem dL_law_247 : decode cL_law 247 = .ok (.istore 6, 2) := by decide +kernel
theorem dL_law_249 : decode cL_law 249 = .ok (.aload_n 2, 1) := by decide +kernel
theorem dL_law_250 : decode cL_law 250 = .ok (.invokevirtual 83, 3) := by decide +kernel
theorem dL_law_253 : decode cL_law 253 = .ok (.iload 5, 2) := by decide +kernel
theorem dL_law_255 : decode cL_law 255 = .ok (.if_icmp .eq 5, 3) := by decide +kernel
theorem dL_law_258 : decode cL_law 258 = .ok (.iconst 0, 1) := by decide +kernel
theorem dL_law_259 : decode cL_law 259 = .ok (.ireturn, 1) := by decide +kernel
theorem dL_law_260 : decode cL_law 260 = .ok (.iload 5, 2) := by decide +kernel
theorem dL_law_262 : decode cL_law 262 = .ok (.ifCond .ne 15, 3) := by decide +kernel
theorem dL_law_265 : decode cL_law 265 = .ok (.aload_n 3, 1) := by decide +kernel
theorem dL_law_266 : decode cL_law 266 = .ok (.iconst 0, 1) := by decide +kernel
theorem dL_law_267 : decode cL_law 267 = .ok (.laload, 1) := by decide +kernel
theorem dL_law_268 : decode cL_law 268 = .ok (.iload 6, 2) := by decide +kernel
theorem dL_law_270 : decode cL_law 270 = .ok (.i2l, 1) := by decide +kernel
theorem dL_law_271 : decode cL_law 271 = .ok (.lcmp, 1) := by decide +kernel
theorem dL_law_272 : decode cL_law 272 = .ok (.ifCond .eq 5, 3) := by decide +kernel
theorem dL_law_275 : decode cL_law 275 = .ok (.iconst 0, 1) := by decide +kernel
theorem dL_law_276 : decode cL_law 276 = .ok (.ireturn, 1) := by decide +kernel
theorem dL_law_277 : decode cL_law 277 = .ok (.goto 1066, 3) := by decide +kernel
theorem dL_law_280 : decode cL_law 280 = .ok (.aload_n 1, 1) := by decide +kernel
theorem dL_law_281 : decode cL_law 281 = .ok (.aload_n 0, 1) := by decide +kernel
theorem dL_law_282 : decode cL_law 282 = .ok (.iload 4, 2) := by decide +kernel
theorem dL_law_284 : decode cL_law 284 = .ok (.iconst 1, 1) := by decide +kernel
theorem dL_law_285 : decode cL_law 285 = .ok (.iadd, 1) := by decide +kernel
theorem dL_law_286 : decode cL_law 286 = .ok (.iaload, 1) := by decide +kernel
theorem dL_law_287 : decode cL_law 287 = .ok (.aload_n 3, 1) := by decide +kernel
theorem dL_law_288 : decode cL_law 288 = .ok (.invokestatic 91, 3) := by decide +kernel
theorem dL_law_291 : decode cL_law 291 = .ok (.istore 5, 2) := by decide +kernel
theorem dL_law_293 : decode cL_law 293 = .ok (.aload_n 2, 1) := by decide +kernel
theorem dL_law_294 : decode cL_law 294 = .ok (.aload_n 0, 1) := by decide +kernel
theorem dL_law_295 : decode cL_law 295 = .ok (.iload 4, 2) := by decide +kernel
theorem dL_law_297 : decode cL_law 297 = .ok (.iconst 1, 1) := by decide +kernel
theorem dL_law_298 : decode cL_law 298 = .ok (.iadd, 1) := by decide +kernel
theorem dL_law_299 : decode cL_law 299 = .ok (.iaload, 1) := by decide +kernel
theorem dL_law_300 : decode cL_law 300 = .ok (.invokevirtual 94, 3) := by decide +kernel
theorem dL_law_303 : decode cL_law 303 = .ok (.istore 6, 2) := by decide +kernel
theorem dL_law_305 : decode cL_law 305 = .ok (.aload_n 2, 1) := by decide +kernel
theorem dL_law_306 : decode cL_law 306 = .ok (.invokevirtual 83, 3) := by decide +kernel
theorem dL_law_309 : decode cL_law 309 = .ok (.iload 5, 2) := by decide +kernel
theorem dL_law_311 : decode cL_law 311 = .ok (.if_icmp .eq 5, 3) := by decide +kernel
theorem dL_law_314 : decode cL_law 314 = .ok (.iconst 0, 1) := by decide +kernel
theorem dL_law_315 : decode cL_law 315 = .ok (.ireturn, 1) := by decide +kernel
theorem dL_law_316 : decode cL_law 316 = .ok (.iload 5, 2) := by decide +kernel
theorem dL_law_318 : decode cL_law 318 = .ok (.ifCond .ne 15, 3) := by decide +kernel
theorem dL_law_321 : decode cL_law 321 = .ok (.aload_n 3, 1) := by decide +kernel
theorem dL_law_322 : decode cL_law 322 = .ok (.iconst 0, 1) := by decide +kernel
theorem dL_law_323 : decode cL_law 323 = .ok (.laload, 1) := by decide +kernel
theorem dL_law_324 : decode cL_law 324 = .ok (.iload 6, 2) := by decide +kernel
theorem dL_law_326 : decode cL_law 326 = .ok (.i2l, 1) := by decide +kernel
theorem dL_law_327 : decode cL_law 327 = .ok (.lcmp, 1) := by decide +kernel
theorem dL_law_328 : decode cL_law 328 = .ok (.ifCond .eq 5, 3) := by decide +kernel
theorem dL_law_331 : decode cL_law 331 = .ok (.iconst 0, 1) := by decide +kernel
theorem dL_law_332 : decode cL_law 332 = .ok (.ireturn, 1) := by decide +kernel
theorem dL_law_333 : decode cL_law 333 = .ok (.goto 1010, 3) := by decide +kernel
theorem dL_law_336 : decode cL_law 336 = .ok (.aload_n 1, 1) := by decide +kernel
theorem dL_law_337 : decode cL_law 337 = .ok (.aload_n 0, 1) := by decide +kernel
theorem dL_law_338 : decode cL_law 338 = .ok (.iload 4, 2) := by decide +kernel
theorem dL_law_340 : decode cL_law 340 = .ok (.iconst 1, 1) := by decide +kernel
theorem dL_law_341 : decode cL_law 341 = .ok (.iadd, 1) := by decide +kernel
theorem dL_law_342 : decode cL_law 342 = .ok (.iaload, 1) := by decide +kernel
theorem dL_law_343 : decode cL_law 343 = .ok (.aload_n 0, 1) := by decide +kernel
theorem dL_law_344 : decode cL_law 344 = .ok (.iload 4, 2) := by decide +kernel
theorem dL_law_346 : decode cL_law 346 = .ok (.iconst 2, 1) := by decide +kernel
theorem dL_law_347 : decode cL_law 347 = .ok (.iadd, 1) := by decide +kernel
theorem dL_law_348 : decode cL_law 348 = .ok (.iaload, 1) := by decide +kernel
theorem dL_law_349 : decode cL_law 349 = .ok (.aload_n 3, 1) := by decide +kernel
theorem dL_law_350 : decode cL_law 350 = .ok (.invokestatic 95, 3) := by decide +kernel
theorem dL_law_353 : decode cL_law 353 = .ok (.istore 5, 2) := by decide +kernel
theorem dL_law_355 : decode cL_law 355 = .ok (.aload_n 2, 1) := by decide +kernel
theorem dL_law_356 : decode cL_law 356 = .ok (.aload_n 0, 1) := by decide +kernel
theorem dL_law_357 : decode cL_law 357 = .ok (.iload 4, 2) := by decide +kernel
theorem dL_law_359 : decode cL_law 359 = .ok (.iconst 1, 1) := by decide +kernel
theorem dL_law_360 : decode cL_law 360 = .ok (.iadd, 1) := by decide +kernel
theorem dL_law_361 : decode cL_law 361 = .ok (.iaload, 1) := by decide +kernel
theorem dL_law_362 : decode cL_law 362 = .ok (.aload_n 0, 1) := by decide +kernel
theorem dL_law_363 : decode cL_law 363 = .ok (.iload 4, 2) := by decide +kernel
theorem dL_law_365 : decode cL_law 365 = .ok (.iconst 2, 1) := by decide +kernel
theorem dL_law_366 : decode cL_law 366 = .ok (.iadd, 1) := by decide +kernel
theorem dL_law_367 : decode cL_law 367 = .ok (.iaload, 1) := by decide +kernel
theorem dL_law_368 : decode cL_law 368 = .ok (.invokevirtual 97, 3) := by decide +kernel
theorem dL_law_371 : decode cL_law 371 = .ok (.istore 6, 2) := by decide +kernel
theorem dL_law_373 : decode cL_law 373 = .ok (.aload_n 2, 1) := by decide +kernel
theorem dL_law_374 : decode cL_law 374 = .ok (.invokevirtual 83, 3) := by decide +kernel
theorem dL_law_377 : decode cL_law 377 = .ok (.iload 5, 2) := by decide +kernel
theorem dL_law_379 : decode cL_law 379 = .ok (.if_icmp .eq 5, 3) := by decide +kernel
theorem dL_law_382 : decode cL_law 382 = .ok (.iconst 0, 1) := by decide +kernel
theorem dL_law_383 : decode cL_law 383 = .ok (.ireturn, 1) := by decide +kernel
theorem dL_law_384 : decode cL_law 384 = .ok (.iload 5, 2) := by decide +kernel
theorem dL_law_386 : decode cL_law 386 = .ok (.ifCond .ne 15, 3) := by decide +kernel
theorem dL_law_389 : decode cL_law 389 = .ok (.aload_n 3, 1) := by decide +kernel
theorem dL_law_390 : decode cL_law 390 = .ok (.iconst 0, 1) := by decide +kernel
theorem dL_law_391 : decode cL_law 391 = .ok (.laload, 1) := by decide +kernel
theorem dL_law_392 : decode cL_law 392 = .ok (.iload 6, 2) := by decide +kernel
theorem dL_law_394 : decode cL_law 394 = .ok (.i2l, 1) := by decide +kernel
theorem dL_law_395 : decode cL_law 395 = .ok (.lcmp, 1) := by decide +kernel
theorem dL_law_396 : decode cL_law 396 = .ok (.ifCond .eq 5, 3) := by decide +kernel
theorem dL_law_399 : decode cL_law 399 = .ok (.iconst 0, 1) := by decide +kernel
theorem dL_law_400 : decode cL_law 400 = .ok (.ireturn, 1) := by decide +kernel
theorem dL_law_401 : decode cL_law 401 = .ok (.goto 942, 3) := by decide +kernel
theorem dL_law_404 : decode cL_law 404 = .ok (.aload_n 1, 1) := by decide +kernel
theorem dL_law_405 : decode cL_law 405 = .ok (.aload_n 0, 1) := by decide +kernel
theorem dL_law_406 : decode cL_law 406 = .ok (.iload 4, 2) := by decide +kernel
theorem dL_law_408 : decode cL_law 408 = .ok (.iconst 1, 1) := by decide +kernel
theorem dL_law_409 : decode cL_law 409 = .ok (.iadd, 1) := by decide +kernel
theorem dL_law_410 : decode cL_law 410 = .ok (.iaload, 1) := by decide +kernel
theorem dL_law_411 : decode cL_law 411 = .ok (.aload_n 3, 1) := by decide +kernel
theorem dL_law_412 : decode cL_law 412 = .ok (.invokestatic 98, 3) := by decide +kernel
theorem dL_law_415 : decode cL_law 415 = .ok (.istore 5, 2) := by decide +kernel
theorem dL_law_417 : decode cL_law 417 = .ok (.aload_n 2, 1) := by decide +kernel
theorem dL_law_418 : decode cL_law 418 = .ok (.aload_n 0, 1) := by decide +kernel
theorem dL_law_419 : decode cL_law 419 = .ok (.iload 4, 2) := by decide +kernel
theorem dL_law_421 : decode cL_law 421 = .ok (.iconst 1, 1) := by decide +kernel
theorem dL_law_422 : decode cL_law 422 = .ok (.iadd, 1) := by decide +kernel
theorem dL_law_423 : decode cL_law 423 = .ok (.iaload, 1) := by decide +kernel
theorem dL_law_424 : decode cL_law 424 = .ok (.invokevirtual 100, 3) := by decide +kernel
theorem dL_law_427 : decode cL_law 427 = .ok (.istore 6, 2) := by decide +kernel
theorem dL_law_429 : decode cL_law 429 = .ok (.aload_n 2, 1) := by decide +kernel
theorem dL_law_430 : decode cL_law 430 = .ok (.invokevirtual 83, 3) := by decide +kernel
theorem dL_law_433 : decode cL_law 433 = .ok (.iload 5, 2) := by decide +kernel
theorem dL_law_435 : decode cL_law 435 = .ok (.if_icmp .eq 5, 3) := by decide +kernel
theorem dL_law_438 : decode cL_law 438 = .ok (.iconst 0, 1) := by decide +kernel
theorem dL_law_439 : decode cL_law 439 = .ok (.ireturn, 1) := by decide +kernel
theorem dL_law_440 : decode cL_law 440 = .ok (.iload 5, 2) := by decide +kernel
theorem dL_law_442 : decode cL_law 442 = .ok (.ifCond .ne 15, 3) := by decide +kernel
theorem dL_law_445 : decode cL_law 445 = .ok (.aload_n 3, 1) := by decide +kernel
theorem dL_law_446 : decode cL_law 446 = .ok (.iconst 0, 1) := by decide +kernel
theorem dL_law_447 : decode cL_law 447 = .ok (.laload, 1) := by decide +kernel
theorem dL_law_448 : decode cL_law 448 = .ok (.iload 6, 2) := by decide +kernel
theorem dL_law_450 : decode cL_law 450 = .ok (.i2l, 1) := by decide +kernel
theorem dL_law_451 : decode cL_law 451 = .ok (.lcmp, 1) := by decide +kernel
theorem dL_law_452 : decode cL_law 452 = .ok (.ifCond .eq 5, 3) := by decide +kernel
theorem dL_law_455 : decode cL_law 455 = .ok (.iconst 0, 1) := by decide +kernel
theorem dL_law_456 : decode cL_law 456 = .ok (.ireturn, 1) := by decide +kernel
theorem dL_law_457 : decode cL_law 457 = .ok (.goto 886, 3) := by decide +kernel
theorem dL_law_460 : decode cL_law 460 = .ok (.aload_n 1, 1) := by decide +kernel
theorem dL_law_461 : decode cL_law 461 = .ok (.aload_n 0, 1) := by decide +kernel
theorem dL_law_462 : decode cL_law 462 = .ok (.iload 4, 2) := by decide +kernel
theorem dL_law_464 : decode cL_law 464 = .ok (.iconst 1, 1) := by decide +kernel
theorem dL_law_465 : decode cL_law 465 = .ok (.iadd, 1) := by decide +kernel
theorem dL_law_466 : decode cL_law 466 = .ok (.iaload, 1) := by decide +kernel
theorem dL_law_467 : decode cL_law 467 = .ok (.aload_n 3, 1) := by decide +kernel
theorem dL_law_468 : decode cL_law 468 = .ok (.invokestatic 101, 3) := by decide +kernel
theorem dL_law_471 : decode cL_law 471 = .ok (.istore 5, 2) := by decide +kernel
theorem dL_law_473 : decode cL_law 473 = .ok (.aload_n 2, 1) := by decide +kernel
theorem dL_law_474 : decode cL_law 474 = .ok (.aload_n 0, 1) := by decide +kernel
theorem dL_law_475 : decode cL_law 475 = .ok (.iload 4, 2) := by decide +kernel
theorem dL_law_477 : decode cL_law 477 = .ok (.iconst 1, 1) := by decide +kernel
theorem dL_law_478 : decode cL_law 478 = .ok (.iadd, 1) := by decide +kernel
theorem dL_law_479 : decode cL_law 479 = .ok (.iaload, 1) := by decide +kernel
theorem dL_law_480 : decode cL_law 480 = .ok (.invokevirtual 103, 3) := by decide +kernel
theorem dL_law_483 : decode cL_law 483 = .ok (.istore 6, 2) := by decide +kernel
theorem dL_law_485 : decode cL_law 485 = .ok (.aload_n 2, 1) := by decide +kernel
theorem dL_law_486 : decode cL_law 486 = .ok (.invokevirtual 83, 3) := by decide +kernel
theorem dL_law_489 : decode cL_law 489 = .ok (.iload 5, 2) := by decide +kernel
theorem dL_law_491 : decode cL_law 491 = .ok (.if_icmp .eq 5, 3) := by decide +kernel
theorem dL_law_494 : decode cL_law 494 = .ok (.iconst 0, 1) := by decide +kernel
theorem dL_law_495 : decode cL_law 495 = .ok (.ireturn, 1) := by decide +kernel
theorem dL_law_496 : decode cL_law 496 = .ok (.iload 5, 2) := by decide +kernel
theorem dL_law_498 : decode cL_law 498 = .ok (.ifCond .ne 15, 3) := by decide +kernel
theorem dL_law_501 : decode cL_law 501 = .ok (.aload_n 3, 1) := by decide +kernel
theorem dL_law_502 : decode cL_law 502 = .ok (.iconst 0, 1) := by decide +kernel
theorem dL_law_503 : decode cL_law 503 = .ok (.laload, 1) := by decide +kernel
theorem dL_law_504 : decode cL_law 504 = .ok (.iload 6, 2) := by decide +kernel
theorem dL_law_506 : decode cL_law 506 = .ok (.i2l, 1) := by decide +kernel
theorem dL_law_507 : decode cL_law 507 = .ok (.lcmp, 1) := by decide +kernel
theorem dL_law_508 : decode cL_law 508 = .ok (.ifCond .eq 5, 3) := by decide +kernel
theorem dL_law_511 : decode cL_law 511 = .ok (.iconst 0, 1) := by decide +kernel
theorem dL_law_512 : decode cL_law 512 = .ok (.ireturn, 1) := by decide +kernel
theorem dL_law_513 : decode cL_law 513 = .ok (.goto 830, 3) := by decide +kernel
theorem dL_law_516 : decode cL_law 516 = .ok (.aload_n 1, 1) := by decide +kernel
theorem dL_law_517 : decode cL_law 517 = .ok (.aload_n 0, 1) := by decide +kernel
theorem dL_law_518 : decode cL_law 518 = .ok (.iload 4, 2) := by decide +kernel
theorem dL_law_520 : decode cL_law 520 = .ok (.iconst 1, 1) := by decide +kernel
theorem dL_law_521 : decode cL_law 521 = .ok (.iadd, 1) := by decide +kernel
theorem dL_law_522 : decode cL_law 522 = .ok (.iaload, 1) := by decide +kernel
theorem dL_law_523 : decode cL_law 523 = .ok (.aload_n 0, 1) := by decide +kernel
theorem dL_law_524 : decode cL_law 524 = .ok (.iload 4, 2) := by decide +kernel
theorem dL_law_526 : decode cL_law 526 = .ok (.iconst 2, 1) := by decide +kernel
theorem dL_law_527 : decode cL_law 527 = .ok (.iadd, 1) := by decide +kernel
theorem dL_law_528 : decode cL_law 528 = .ok (.iaload, 1) := by decide +kernel
theorem dL_law_529 : decode cL_law 529 = .ok (.aload_n 0, 1) := by decide +kernel
theorem dL_law_530 : decode cL_law 530 = .ok (.iload 4, 2) := by decide +kernel
theorem dL_law_532 : decode cL_law 532 = .ok (.iconst 3, 1) := by decide +kernel
theorem dL_law_533 : decode cL_law 533 = .ok (.iadd, 1) := by decide +kernel
theorem dL_law_534 : decode cL_law 534 = .ok (.iaload, 1) := by decide +kernel
theorem dL_law_535 : decode cL_law 535 = .ok (.ifCond .eq 7, 3) := by decide +kernel
theorem dL_law_538 : decode cL_law 538 = .ok (.iconst 1, 1) := by decide +kernel
theorem dL_law_539 : decode cL_law 539 = .ok (.goto 4, 3) := by decide +kernel
theorem dL_law_542 : decode cL_law 542 = .ok (.iconst 0, 1) := by decide +kernel
theorem dL_law_543 : decode cL_law 543 = .ok (.aload_n 3, 1) := by decide +kernel
theorem dL_law_544 : decode cL_law 544 = .ok (.invokestatic 104, 3) := by decide +kernel
theorem dL_law_547 : decode cL_law 547 = .ok (.istore 5, 2) := by decide +kernel
theorem dL_law_549 : decode cL_law 549 = .ok (.aload_n 2, 1) := by decide +kernel
theorem dL_law_550 : decode cL_law 550 = .ok (.aload_n 0, 1) := by decide +kernel
theorem dL_law_551 : decode cL_law 551 = .ok (.iload 4, 2) := by decide +kernel
theorem dL_law_553 : decode cL_law 553 = .ok (.iconst 1, 1) := by decide +kernel
theorem dL_law_554 : decode cL_law 554 = .ok (.iadd, 1) := by decide +kernel
theorem dL_law_555 : decode cL_law 555 = .ok (.iaload, 1) := by decide +kernel
theorem dL_law_556 : decode cL_law 556 = .ok (.aload_n 0, 1) := by decide +kernel
theorem dL_law_557 : decode cL_law 557 = .ok (.iload 4, 2) := by decide +kernel
theorem dL_law_559 : decode cL_law 559 = .ok (.iconst 2, 1) := by decide +kernel
theorem dL_law_560 : decode cL_law 560 = .ok (.iadd, 1) := by decide +kernel
theorem dL_law_561 : decode cL_law 561 = .ok (.iaload, 1) := by decide +kernel
theorem dL_law_562 : decode cL_law 562 = .ok (.aload_n 0, 1) := by decide +kernel
theorem dL_law_563 : decode cL_law 563 = .ok (.iload 4, 2) := by decide +kernel
theorem dL_law_565 : decode cL_law 565 = .ok (.iconst 3, 1) := by decide +kernel
theorem dL_law_566 : decode cL_law 566 = .ok (.iadd, 1) := by decide +kernel
theorem dL_law_567 : decode cL_law 567 = .ok (.iaload, 1) := by decide +kernel
theorem dL_law_568 : decode cL_law 568 = .ok (.ifCond .eq 7, 3) := by decide +kernel
theorem dL_law_571 : decode cL_law 571 = .ok (.iconst 1, 1) := by decide +kernel
theorem dL_law_572 : decode cL_law 572 = .ok (.goto 4, 3) := by decide +kernel
theorem dL_law_575 : decode cL_law 575 = .ok (.iconst 0, 1) := by decide +kernel
theorem dL_law_576 : decode cL_law 576 = .ok (.invokevirtual 107, 3) := by decide +kernel
theorem dL_law_579 : decode cL_law 579 = .ok (.istore 6, 2) := by decide +kernel
theorem dL_law_581 : decode cL_law 581 = .ok (.aload_n 2, 1) := by decide +kernel
theorem dL_law_582 : decode cL_law 582 = .ok (.invokevirtual 83, 3) := by decide +kernel
theorem dL_law_585 : decode cL_law 585 = .ok (.iload 5, 2) := by decide +kernel
theorem dL_law_587 : decode cL_law 587 = .ok (.if_icmp .eq 5, 3) := by decide +kernel
theorem dL_law_590 : decode cL_law 590 = .ok (.iconst 0, 1) := by decide +kernel
theorem dL_law_591 : decode cL_law 591 = .ok (.ireturn, 1) := by decide +kernel
theorem dL_law_592 : decode cL_law 592 = .ok (.iload 5, 2) := by decide +kernel
theorem dL_law_594 : decode cL_law 594 = .ok (.ifCond .ne 15, 3) := by decide +kernel
theorem dL_law_597 : decode cL_law 597 = .ok (.aload_n 3, 1) := by decide +kernel
theorem dL_law_598 : decode cL_law 598 = .ok (.iconst 0, 1) := by decide +kernel
theorem dL_law_599 : decode cL_law 599 = .ok (.laload, 1) := by decide +kernel
theorem dL_law_600 : decode cL_law 600 = .ok (.iload 6, 2) := by decide +kernel
theorem dL_law_602 : decode cL_law 602 = .ok (.i2l, 1) := by decide +kernel
theorem dL_law_603 : decode cL_law 603 = .ok (.lcmp, 1) := by decide +kernel
theorem dL_law_604 : decode cL_law 604 = .ok (.ifCond .eq 5, 3) := by decide +kernel
theorem dL_law_607 : decode cL_law 607 = .ok (.iconst 0, 1) := by decide +kernel
theorem dL_law_608 : decode cL_law 608 = .ok (.ireturn, 1) := by decide +kernel
theorem dL_law_609 : decode cL_law 609 = .ok (.goto 734, 3) := by decide +kernel
theorem dL_law_612 : decode cL_law 612 = .ok (.aload_n 1, 1) := by decide +kernel
theorem dL_law_613 : decode cL_law 613 = .ok (.aload_n 0, 1) := by decide +kernel
theorem dL_law_614 : decode cL_law 614 = .ok (.iload 4, 2) := by decide +kernel
theorem dL_law_616 : decode cL_law 616 = .ok (.iconst 1, 1) := by decide +kernel
theorem dL_law_617 : decode cL_law 617 = .ok (.iadd, 1) := by decide +kernel
theorem dL_law_618 : decode cL_law 618 = .ok (.iaload, 1) := by decide +kernel
theorem dL_law_619 : decode cL_law 619 = .ok (.aload_n 3, 1) := by decide +kernel
theorem dL_law_620 : decode cL_law 620 = .ok (.invokestatic 108, 3) := by decide +kernel
theorem dL_law_623 : decode cL_law 623 = .ok (.istore 5, 2) := by decide +kernel
theorem dL_law_625 : decode cL_law 625 = .ok (.aload_n 2, 1) := by decide +kernel
theorem dL_law_626 : decode cL_law 626 = .ok (.aload_n 0, 1) := by decide +kernel
theorem dL_law_627 : decode cL_law 627 = .ok (.iload 4, 2) := by decide +kernel
theorem dL_law_629 : decode cL_law 629 = .ok (.iconst 1, 1) := by decide +kernel
theorem dL_law_630 : decode cL_law 630 = .ok (.iadd, 1) := by decide +kernel
theorem dL_law_631 : decode cL_law 631 = .ok (.iaload, 1) := by decide +kernel
theorem dL_law_632 : decode cL_law 632 = .ok (.invokevirtual 110, 3) := by decide +kernel
theorem dL_law_635 : decode cL_law 635 = .ok (.istore 6, 2) := by decide +kernel
theorem dL_law_637 : decode cL_law 637 = .ok (.aload_n 2, 1) := by decide +kernel
theorem dL_law_638 : decode cL_law 638 = .ok (.invokevirtual 83, 3) := by decide +kernel
theorem dL_law_641 : decode cL_law 641 = .ok (.iload 5, 2) := by decide +kernel
theorem dL_law_643 : decode cL_law 643 = .ok (.if_icmp .eq 5, 3) := by decide +kernel
theorem dL_law_646 : decode cL_law 646 = .ok (.iconst 0, 1) := by decide +kernel
theorem dL_law_647 : decode cL_law 647 = .ok (.ireturn, 1) := by decide +kernel
theorem dL_law_648 : decode cL_law 648 = .ok (.iload 5, 2) := by decide +kernel
theorem dL_law_650 : decode cL_law 650 = .ok (.ifCond .ne 15, 3) := by decide +kernel
theorem dL_law_653 : decode cL_law 653 = .ok (.aload_n 3, 1) := by decide +kernel
theorem dL_law_654 : decode cL_law 654 = .ok (.iconst 0, 1) := by decide +kernel
theorem dL_law_655 : decode cL_law 655 = .ok (.laload, 1) := by decide +kernel
theorem dL_law_656 : decode cL_law 656 = .ok (.iload 6, 2) := by decide +kernel
theorem dL_law_658 : decode cL_law 658 = .ok (.i2l, 1) := by decide +kernel
theorem dL_law_659 : decode cL_law 659 = .ok (.lcmp, 1) := by decide +kernel
theorem dL_law_660 : decode cL_law 660 = .ok (.ifCond .eq 5, 3) := by decide +kernel
theorem dL_law_663 : decode cL_law 663 = .ok (.iconst 0, 1) := by decide +kernel
theorem dL_law_664 : decode cL_law 664 = .ok (.ireturn, 1) := by decide +kernel
theorem dL_law_665 : decode cL_law 665 = .ok (.goto 678, 3) := by decide +kernel
theorem dL_law_668 : decode cL_law 668 = .ok (.aload_n 1, 1) := by decide +kernel
theorem dL_law_669 : decode cL_law 669 = .ok (.aload_n 0, 1) := by decide +kernel
theorem dL_law_670 : decode cL_law 670 = .ok (.iload 4, 2) := by decide +kernel
theorem dL_law_672 : decode cL_law 672 = .ok (.iconst 1, 1) := by decide +kernel
theorem dL_law_673 : decode cL_law 673 = .ok (.iadd, 1) := by decide +kernel
theorem dL_law_674 : decode cL_law 674 = .ok (.iaload, 1) := by decide +kernel
theorem dL_law_675 : decode cL_law 675 = .ok (.aload_n 0, 1) := by decide +kernel
theorem dL_law_676 : decode cL_law 676 = .ok (.iload 4, 2) := by decide +kernel
theorem dL_law_678 : decode cL_law 678 = .ok (.iconst 2, 1) := by decide +kernel
theorem dL_law_679 : decode cL_law 679 = .ok (.iadd, 1) := by decide +kernel
theorem dL_law_680 : decode cL_law 680 = .ok (.iaload, 1) := by decide +kernel
theorem dL_law_681 : decode cL_law 681 = .ok (.aload_n 3, 1) := by decide +kernel
theorem dL_law_682 : decode cL_law 682 = .ok (.invokestatic 111, 3) := by decide +kernel
theorem dL_law_685 : decode cL_law 685 = .ok (.istore 5, 2) := by decide +kernel
theorem dL_law_687 : decode cL_law 687 = .ok (.aload_n 2, 1) := by decide +kernel
theorem dL_law_688 : decode cL_law 688 = .ok (.aload_n 0, 1) := by decide +kernel
theorem dL_law_689 : decode cL_law 689 = .ok (.iload 4, 2) := by decide +kernel
theorem dL_law_691 : decode cL_law 691 = .ok (.iconst 1, 1) := by decide +kernel
theorem dL_law_692 : decode cL_law 692 = .ok (.iadd, 1) := by decide +kernel
theorem dL_law_693 : decode cL_law 693 = .ok (.iaload, 1) := by decide +kernel
theorem dL_law_694 : decode cL_law 694 = .ok (.aload_n 0, 1) := by decide +kernel
theorem dL_law_695 : decode cL_law 695 = .ok (.iload 4, 2) := by decide +kernel
theorem dL_law_697 : decode cL_law 697 = .ok (.iconst 2, 1) := by decide +kernel
theorem dL_law_698 : decode cL_law 698 = .ok (.iadd, 1) := by decide +kernel
theorem dL_law_699 : decode cL_law 699 = .ok (.iaload, 1) := by decide +kernel
theorem dL_law_700 : decode cL_law 700 = .ok (.invokevirtual 113, 3) := by decide +kernel
theorem dL_law_703 : decode cL_law 703 = .ok (.istore 6, 2) := by decide +kernel
theorem dL_law_705 : decode cL_law 705 = .ok (.aload_n 2, 1) := by decide +kernel
theorem dL_law_706 : decode cL_law 706 = .ok (.invokevirtual 83, 3) := by decide +kernel
theorem dL_law_709 : decode cL_law 709 = .ok (.iload 5, 2) := by decide +kernel
theorem dL_law_711 : decode cL_law 711 = .ok (.if_icmp .eq 5, 3) := by decide +kernel
theorem dL_law_714 : decode cL_law 714 = .ok (.iconst 0, 1) := by decide +kernel
theorem dL_law_715 : decode cL_law 715 = .ok (.ireturn, 1) := by decide +kernel
theorem dL_law_716 : decode cL_law 716 = .ok (.iload 5, 2) := by decide +kernel
theorem dL_law_718 : decode cL_law 718 = .ok (.ifCond .ne 15, 3) := by decide +kernel
theorem dL_law_721 : decode cL_law 721 = .ok (.aload_n 3, 1) := by decide +kernel
theorem dL_law_722 : decode cL_law 722 = .ok (.iconst 0, 1) := by decide +kernel
theorem dL_law_723 : decode cL_law 723 = .ok (.laload, 1) := by decide +kernel
theorem dL_law_724 : decode cL_law 724 = .ok (.iload 6, 2) := by decide +kernel
theorem dL_law_726 : decode cL_law 726 = .ok (.i2l, 1) := by decide +kernel
theorem dL_law_727 : decode cL_law 727 = .ok (.lcmp, 1) := by decide +kernel
theorem dL_law_728 : decode cL_law 728 = .ok (.ifCond .eq 5, 3) := by decide +kernel
theorem dL_law_731 : decode cL_law 731 = .ok (.iconst 0, 1) := by decide +kernel
theorem dL_law_732 : decode cL_law 732 = .ok (.ireturn, 1) := by decide +kernel
theorem dL_law_733 : decode cL_law 733 = .ok (.goto 610, 3) := by decide +kernel
theorem dL_law_736 : decode cL_law 736 = .ok (.aload_n 1, 1) := by decide +kernel
theorem dL_law_737 : decode cL_law 737 = .ok (.aload_n 0, 1) := by decide +kernel
theorem dL_law_738 : decode cL_law 738 = .ok (.iload 4, 2) := by decide +kernel
theorem dL_law_740 : decode cL_law 740 = .ok (.iconst 1, 1) := by decide +kernel
theorem dL_law_741 : decode cL_law 741 = .ok (.iadd, 1) := by decide +kernel
theorem dL_law_742 : decode cL_law 742 = .ok (.iaload, 1) := by decide +kernel
theorem dL_law_743 : decode cL_law 743 = .ok (.aload_n 0, 1) := by decide +kernel
theorem dL_law_744 : decode cL_law 744 = .ok (.iload 4, 2) := by decide +kernel
theorem dL_law_746 : decode cL_law 746 = .ok (.iconst 2, 1) := by decide +kernel
theorem dL_law_747 : decode cL_law 747 = .ok (.iadd, 1) := by decide +kernel
theorem dL_law_748 : decode cL_law 748 = .ok (.iaload, 1) := by decide +kernel
theorem dL_law_749 : decode cL_law 749 = .ok (.aload_n 3, 1) := by decide +kernel
theorem dL_law_750 : decode cL_law 750 = .ok (.invokestatic 114, 3) := by decide +kernel
theorem dL_law_753 : decode cL_law 753 = .ok (.istore 5, 2) := by decide +kernel
theorem dL_law_755 : decode cL_law 755 = .ok (.aload_n 2, 1) := by decide +kernel
theorem dL_law_756 : decode cL_law 756 = .ok (.aload_n 0, 1) := by decide +kernel
theorem dL_law_757 : decode cL_law 757 = .ok (.iload 4, 2) := by decide +kernel
theorem dL_law_759 : decode cL_law 759 = .ok (.iconst 1, 1) := by decide +kernel
theorem dL_law_760 : decode cL_law 760 = .ok (.iadd, 1) := by decide +kernel
theorem dL_law_761 : decode cL_law 761 = .ok (.iaload, 1) := by decide +kernel
theorem dL_law_762 : decode cL_law 762 = .ok (.aload_n 0, 1) := by decide +kernel
theorem dL_law_763 : decode cL_law 763 = .ok (.iload 4, 2) := by decide +kernel
theorem dL_law_765 : decode cL_law 765 = .ok (.iconst 2, 1) := by decide +kernel
theorem dL_law_766 : decode cL_law 766 = .ok (.iadd, 1) := by decide +kernel
theorem dL_law_767 : decode cL_law 767 = .ok (.iaload, 1) := by decide +kernel
theorem dL_law_768 : decode cL_law 768 = .ok (.invokevirtual 116, 3) := by decide +kernel
theorem dL_law_771 : decode cL_law 771 = .ok (.istore 6, 2) := by decide +kernel
theorem dL_law_773 : decode cL_law 773 = .ok (.aload_n 2, 1) := by decide +kernel
theorem dL_law_774 : decode cL_law 774 = .ok (.invokevirtual 83, 3) := by decide +kernel
theorem dL_law_777 : decode cL_law 777 = .ok (.iload 5, 2) := by decide +kernel
theorem dL_law_779 : decode cL_law 779 = .ok (.if_icmp .eq 5, 3) := by decide +kernel
theorem dL_law_782 : decode cL_law 782 = .ok (.iconst 0, 1) := by decide +kernel
theorem dL_law_783 : decode cL_law 783 = .ok (.ireturn, 1) := by decide +kernel
theorem dL_law_784 : decode cL_law 784 = .ok (.iload 5, 2) := by decide +kernel
theorem dL_law_786 : decode cL_law 786 = .ok (.ifCond .ne 15, 3) := by decide +kernel
theorem dL_law_789 : decode cL_law 789 = .ok (.aload_n 3, 1) := by decide +kernel
theorem dL_law_790 : decode cL_law 790 = .ok (.iconst 0, 1) := by decide +kernel
theorem dL_law_791 : decode cL_law 791 = .ok (.laload, 1) := by decide +kernel
theorem dL_law_792 : decode cL_law 792 = .ok (.iload 6, 2) := by decide +kernel
theorem dL_law_794 : decode cL_law 794 = .ok (.i2l, 1) := by decide +kernel
theorem dL_law_795 : decode cL_law 795 = .ok (.lcmp, 1) := by decide +kernel
theorem dL_law_796 : decode cL_law 796 = .ok (.ifCond .eq 5, 3) := by decide +kernel
theorem dL_law_799 : decode cL_law 799 = .ok (.iconst 0, 1) := by decide +kernel
theorem dL_law_800 : decode cL_law 800 = .ok (.ireturn, 1) := by decide +kernel
theorem dL_law_801 : decode cL_law 801 = .ok (.goto 542, 3) := by decide +kernel
theorem dL_law_804 : decode cL_law 804 = .ok (.aload_n 1, 1) := by decide +kernel
theorem dL_law_805 : decode cL_law 805 = .ok (.aload_n 0, 1) := by decide +kernel
theorem dL_law_806 : decode cL_law 806 = .ok (.iload 4, 2) := by decide +kernel
theorem dL_law_808 : decode cL_law 808 = .ok (.iconst 1, 1) := by decide +kernel
theorem dL_law_809 : decode cL_law 809 = .ok (.iadd, 1) := by decide +kernel
theorem dL_law_810 : decode cL_law 810 = .ok (.iaload, 1) := by decide +kernel
theorem dL_law_811 : decode cL_law 811 = .ok (.aload_n 0, 1) := by decide +kernel
theorem dL_law_812 : decode cL_law 812 = .ok (.iload 4, 2) := by decide +kernel
theorem dL_law_814 : decode cL_law 814 = .ok (.iconst 2, 1) := by decide +kernel
theorem dL_law_815 : decode cL_law 815 = .ok (.iadd, 1) := by decide +kernel
theorem dL_law_816 : decode cL_law 816 = .ok (.iaload, 1) := by decide +kernel
theorem dL_law_817 : decode cL_law 817 = .ok (.aload_n 3, 1) := by decide +kernel
theorem dL_law_818 : decode cL_law 818 = .ok (.invokestatic 117, 3) := by decide +kernel
theorem dL_law_821 : decode cL_law 821 = .ok (.istore 5, 2) := by decide +kernel
theorem dL_law_823 : decode cL_law 823 = .ok (.aload_n 2, 1) := by decide +kernel
theorem dL_law_824 : decode cL_law 824 = .ok (.aload_n 0, 1) := by decide +kernel
theorem dL_law_825 : decode cL_law 825 = .ok (.iload 4, 2) := by decide +kernel
theorem dL_law_827 : decode cL_law 827 = .ok (.iconst 1, 1) := by decide +kernel
theorem dL_law_828 : decode cL_law 828 = .ok (.iadd, 1) := by decide +kernel
theorem dL_law_829 : decode cL_law 829 = .ok (.iaload, 1) := by decide +kernel
theorem dL_law_830 : decode cL_law 830 = .ok (.aload_n 0, 1) := by decide +kernel
theorem dL_law_831 : decode cL_law 831 = .ok (.iload 4, 2) := by decide +kernel
theorem dL_law_833 : decode cL_law 833 = .ok (.iconst 2, 1) := by decide +kernel
theorem dL_law_834 : decode cL_law 834 = .ok (.iadd, 1) := by decide +kernel
theorem dL_law_835 : decode cL_law 835 = .ok (.iaload, 1) := by decide +kernel
theorem dL_law_836 : decode cL_law 836 = .ok (.invokevirtual 119, 3) := by decide +kernel
theorem dL_law_839 : decode cL_law 839 = .ok (.istore 6, 2) := by decide +kernel
theorem dL_law_841 : decode cL_law 841 = .ok (.aload_n 2, 1) := by decide +kernel
theorem dL_law_842 : decode cL_law 842 = .ok (.invokevirtual 83, 3) := by decide +kernel
theorem dL_law_845 : decode cL_law 845 = .ok (.iload 5, 2) := by decide +kernel
theorem dL_law_847 : decode cL_law 847 = .ok (.if_icmp .eq 5, 3) := by decide +kernel
theorem dL_law_850 : decode cL_law 850 = .ok (.iconst 0, 1) := by decide +kernel
theorem dL_law_851 : decode cL_law 851 = .ok (.ireturn, 1) := by decide +kernel
theorem dL_law_852 : decode cL_law 852 = .ok (.iload 5, 2) := by decide +kernel
theorem dL_law_854 : decode cL_law 854 = .ok (.ifCond .ne 15, 3) := by decide +kernel
theorem dL_law_857 : decode cL_law 857 = .ok (.aload_n 3, 1) := by decide +kernel
theorem dL_law_858 : decode cL_law 858 = .ok (.iconst 0, 1) := by decide +kernel
theorem dL_law_859 : decode cL_law 859 = .ok (.laload, 1) := by decide +kernel
theorem dL_law_860 : decode cL_law 860 = .ok (.iload 6, 2) := by decide +kernel
theorem dL_law_862 : decode cL_law 862 = .ok (.i2l, 1) := by decide +kernel
theorem dL_law_863 : decode cL_law 863 = .ok (.lcmp, 1) := by decide +kernel
theorem dL_law_864 : decode cL_law 864 = .ok (.ifCond .eq 5, 3) := by decide +kernel
theorem dL_law_867 : decode cL_law 867 = .ok (.iconst 0, 1) := by decide +kernel
theorem dL_law_868 : decode cL_law 868 = .ok (.ireturn, 1) := by decide +kernel
theorem dL_law_869 : decode cL_law 869 = .ok (.goto 474, 3) := by decide +kernel
theorem dL_law_872 : decode cL_law 872 = .ok (.aload_n 1, 1) := by decide +kernel
theorem dL_law_873 : decode cL_law 873 = .ok (.aload_n 0, 1) := by decide +kernel
theorem dL_law_874 : decode cL_law 874 = .ok (.iload 4, 2) := by decide +kernel
theorem dL_law_876 : decode cL_law 876 = .ok (.iconst 1, 1) := by decide +kernel
theorem dL_law_877 : decode cL_law 877 = .ok (.iadd, 1) := by decide +kernel
theorem dL_law_878 : decode cL_law 878 = .ok (.iaload, 1) := by decide +kernel
theorem dL_law_879 : decode cL_law 879 = .ok (.aload_n 3, 1) := by decide +kernel
theorem dL_law_880 : decode cL_law 880 = .ok (.invokestatic 120, 3) := by decide +kernel
theorem dL_law_883 : decode cL_law 883 = .ok (.istore 5, 2) := by decide +kernel
theorem dL_law_885 : decode cL_law 885 = .ok (.aload_n 2, 1) := by decide +kernel
theorem dL_law_886 : decode cL_law 886 = .ok (.aload_n 0, 1) := by decide +kernel
theorem dL_law_887 : decode cL_law 887 = .ok (.iload 4, 2) := by decide +kernel
theorem dL_law_889 : decode cL_law 889 = .ok (.iconst 1, 1) := by decide +kernel
theorem dL_law_890 : decode cL_law 890 = .ok (.iadd, 1) := by decide +kernel
theorem dL_law_891 : decode cL_law 891 = .ok (.iaload, 1) := by decide +kernel
theorem dL_law_892 : decode cL_law 892 = .ok (.invokevirtual 122, 3) := by decide +kernel
theorem dL_law_895 : decode cL_law 895 = .ok (.istore 6, 2) := by decide +kernel
theorem dL_law_897 : decode cL_law 897 = .ok (.aload_n 2, 1) := by decide +kernel
theorem dL_law_898 : decode cL_law 898 = .ok (.invokevirtual 83, 3) := by decide +kernel
theorem dL_law_901 : decode cL_law 901 = .ok (.iload 5, 2) := by decide +kernel
theorem dL_law_903 : decode cL_law 903 = .ok (.if_icmp .eq 5, 3) := by decide +kernel
theorem dL_law_906 : decode cL_law 906 = .ok (.iconst 0, 1) := by decide +kernel
theorem dL_law_907 : decode cL_law 907 = .ok (.ireturn, 1) := by decide +kernel
theorem dL_law_908 : decode cL_law 908 = .ok (.iload 5, 2) := by decide +kernel
theorem dL_law_910 : decode cL_law 910 = .ok (.ifCond .ne 15, 3) := by decide +kernel
theorem dL_law_913 : decode cL_law 913 = .ok (.aload_n 3, 1) := by decide +kernel
theorem dL_law_914 : decode cL_law 914 = .ok (.iconst 0, 1) := by decide +kernel
theorem dL_law_915 : decode cL_law 915 = .ok (.laload, 1) := by decide +kernel
theorem dL_law_916 : decode cL_law 916 = .ok (.iload 6, 2) := by decide +kernel
theorem dL_law_918 : decode cL_law 918 = .ok (.i2l, 1) := by decide +kernel
theorem dL_law_919 : decode cL_law 919 = .ok (.lcmp, 1) := by decide +kernel
theorem dL_law_920 : decode cL_law 920 = .ok (.ifCond .eq 5, 3) := by decide +kernel
theorem dL_law_923 : decode cL_law 923 = .ok (.iconst 0, 1) := by decide +kernel
theorem dL_law_924 : decode cL_law 924 = .ok (.ireturn, 1) := by decide +kernel
theorem dL_law_925 : decode cL_law 925 = .ok (.goto 418, 3) := by decide +kernel
theorem dL_law_928 : decode cL_law 928 = .ok (.aload_n 1, 1) := by decide +kernel
theorem dL_law_929 : decode cL_law 929 = .ok (.aload_n 0, 1) := by decide +kernel
theorem dL_law_930 : decode cL_law 930 = .ok (.iload 4, 2) := by decide +kernel
theorem dL_law_932 : decode cL_law 932 = .ok (.iconst 1, 1) := by decide +kernel
theorem dL_law_933 : decode cL_law 933 = .ok (.iadd, 1) := by decide +kernel
theorem dL_law_934 : decode cL_law 934 = .ok (.iaload, 1) := by decide +kernel
theorem dL_law_935 : decode cL_law 935 = .ok (.aload_n 3, 1) := by decide +kernel
theorem dL_law_936 : decode cL_law 936 = .ok (.invokestatic 123, 3) := by decide +kernel
theorem dL_law_939 : decode cL_law 939 = .ok (.istore 5, 2) := by decide +kernel
theorem dL_law_941 : decode cL_law 941 = .ok (.aload_n 2, 1) := by decide +kernel
theorem dL_law_942 : decode cL_law 942 = .ok (.aload_n 0, 1) := by decide +kernel
theorem dL_law_943 : decode cL_law 943 = .ok (.iload 4, 2) := by decide +kernel
theorem dL_law_945 : decode cL_law 945 = .ok (.iconst 1, 1) := by decide +kernel
theorem dL_law_946 : decode cL_law 946 = .ok (.iadd, 1) := by decide +kernel
theorem dL_law_947 : decode cL_law 947 = .ok (.iaload, 1) := by decide +kernel
theorem dL_law_948 : decode cL_law 948 = .ok (.invokevirtual 125, 3) := by decide +kernel
theorem dL_law_951 : decode cL_law 951 = .ok (.istore 6, 2) := by decide +kernel
theorem dL_law_953 : decode cL_law 953 = .ok (.aload_n 2, 1) := by decide +kernel
theorem dL_law_954 : decode cL_law 954 = .ok (.invokevirtual 83, 3) := by decide +kernel
theorem dL_law_957 : decode cL_law 957 = .ok (.iload 5, 2) := by decide +kernel
theorem dL_law_959 : decode cL_law 959 = .ok (.if_icmp .eq 5, 3) := by decide +kernel
theorem dL_law_962 : decode cL_law 962 = .ok (.iconst 0, 1) := by decide +kernel
theorem dL_law_963 : decode cL_law 963 = .ok (.ireturn, 1) := by decide +kernel
theorem dL_law_964 : decode cL_law 964 = .ok (.iload 5, 2) := by decide +kernel
theorem dL_law_966 : decode cL_law 966 = .ok (.ifCond .ne 15, 3) := by decide +kernel
theorem dL_law_969 : decode cL_law 969 = .ok (.aload_n 3, 1) := by decide +kernel
theorem dL_law_970 : decode cL_law 970 = .ok (.iconst 0, 1) := by decide +kernel
theorem dL_law_971 : decode cL_law 971 = .ok (.laload, 1) := by decide +kernel
theorem dL_law_972 : decode cL_law 972 = .ok (.iload 6, 2) := by decide +kernel
theorem dL_law_974 : decode cL_law 974 = .ok (.i2l, 1) := by decide +kernel
theorem dL_law_975 : decode cL_law 975 = .ok (.lcmp, 1) := by decide +kernel
theorem dL_law_976 : decode cL_law 976 = .ok (.ifCond .eq 5, 3) := by decide +kernel
theorem dL_law_979 : decode cL_law 979 = .ok (.iconst 0, 1) := by decide +kernel
theorem dL_law_980 : decode cL_law 980 = .ok (.ireturn, 1) := by decide +kernel
theorem dL_law_981 : decode cL_law 981 = .ok (.goto 362, 3) := by decide +kernel
theorem dL_law_984 : decode cL_law 984 = .ok (.aload_n 1, 1) := by decide +kernel
theorem dL_law_985 : decode cL_law 985 = .ok (.aload_n 0, 1) := by decide +kernel
theorem dL_law_986 : decode cL_law 986 = .ok (.iload 4, 2) := by decide +kernel
theorem dL_law_988 : decode cL_law 988 = .ok (.iconst 1, 1) := by decide +kernel
theorem dL_law_989 : decode cL_law 989 = .ok (.iadd, 1) := by decide +kernel
theorem dL_law_990 : decode cL_law 990 = .ok (.iaload, 1) := by decide +kernel
theorem dL_law_991 : decode cL_law 991 = .ok (.aload_n 3, 1) := by decide +kernel
theorem dL_law_992 : decode cL_law 992 = .ok (.invokestatic 126, 3) := by decide +kernel
theorem dL_law_995 : decode cL_law 995 = .ok (.istore 5, 2) := by decide +kernel
theorem dL_law_997 : decode cL_law 997 = .ok (.aload_n 2, 1) := by decide +kernel
theorem dL_law_998 : decode cL_law 998 = .ok (.aload_n 0, 1) := by decide +kernel
theorem dL_law_999 : decode cL_law 999 = .ok (.iload 4, 2) := by decide +kernel
theorem dL_law_1001 : decode cL_law 1001 = .ok (.iconst 1, 1) := by decide +kernel
theorem dL_law_1002 : decode cL_law 1002 = .ok (.iadd, 1) := by decide +kernel
theorem dL_law_1003 : decode cL_law 1003 = .ok (.iaload, 1) := by decide +kernel
theorem dL_law_1004 : decode cL_law 1004 = .ok (.invokevirtual 128, 3) := by decide +kernel
theorem dL_law_1007 : decode cL_law 1007 = .ok (.istore 6, 2) := by decide +kernel
theorem dL_law_1009 : decode cL_law 1009 = .ok (.aload_n 2, 1) := by decide +kernel
theorem dL_law_1010 : decode cL_law 1010 = .ok (.invokevirtual 83, 3) := by decide +kernel
theorem dL_law_1013 : decode cL_law 1013 = .ok (.iload 5, 2) := by decide +kernel
theorem dL_law_1015 : decode cL_law 1015 = .ok (.if_icmp .eq 5, 3) := by decide +kernel
theorem dL_law_1018 : decode cL_law 1018 = .ok (.iconst 0, 1) := by decide +kernel
theorem dL_law_1019 : decode cL_law 1019 = .ok (.ireturn, 1) := by decide +kernel
theorem dL_law_1020 : decode cL_law 1020 = .ok (.iload 5, 2) := by decide +kernel
theorem dL_law_1022 : decode cL_law 1022 = .ok (.ifCond .ne 15, 3) := by decide +kernel
theorem dL_law_1025 : decode cL_law 1025 = .ok (.aload_n 3, 1) := by decide +kernel
theorem dL_law_1026 : decode cL_law 1026 = .ok (.iconst 0, 1) := by decide +kernel
theorem dL_law_1027 : decode cL_law 1027 = .ok (.laload, 1) := by decide +kernel
theorem dL_law_1028 : decode cL_law 1028 = .ok (.iload 6, 2) := by decide +kernel
theorem dL_law_1030 : decode cL_law 1030 = .ok (.i2l, 1) := by decide +kernel
theorem dL_law_1031 : decode cL_law 1031 = .ok (.lcmp, 1) := by decide +kernel
theorem dL_law_1032 : decode cL_law 1032 = .ok (.ifCond .eq 5, 3) := by decide +kernel
theorem dL_law_1035 : decode cL_law 1035 = .ok (.iconst 0, 1) := by decide +kernel
theorem dL_law_1036 : decode cL_law 1036 = .ok (.ireturn, 1) := by decide +kernel
theorem dL_law_1037 : decode cL_law 1037 = .ok (.goto 306, 3) := by decide +kernel
theorem dL_law_1040 : decode cL_law 1040 = .ok (.aload_n 1, 1) := by decide +kernel
theorem dL_law_1041 : decode cL_law 1041 = .ok (.aload_n 0, 1) := by decide +kernel
theorem dL_law_1042 : decode cL_law 1042 = .ok (.iload 4, 2) := by decide +kernel
theorem dL_law_1044 : decode cL_law 1044 = .ok (.iconst 1, 1) := by decide +kernel
theorem dL_law_1045 : decode cL_law 1045 = .ok (.iadd, 1) := by decide +kernel
theorem dL_law_1046 : decode cL_law 1046 = .ok (.iaload, 1) := by decide +kernel
theorem dL_law_1047 : decode cL_law 1047 = .ok (.aload_n 3, 1) := by decide +kernel
theorem dL_law_1048 : decode cL_law 1048 = .ok (.invokestatic 129, 3) := by decide +kernel
theorem dL_law_1051 : decode cL_law 1051 = .ok (.istore 5, 2) := by decide +kernel
theorem dL_law_1053 : decode cL_law 1053 = .ok (.aload_n 2, 1) := by decide +kernel
theorem dL_law_1054 : decode cL_law 1054 = .ok (.aload_n 0, 1) := by decide +kernel
theorem dL_law_1055 : decode cL_law 1055 = .ok (.iload 4, 2) := by decide +kernel
theorem dL_law_1057 : decode cL_law 1057 = .ok (.iconst 1, 1) := by decide +kernel
theorem dL_law_1058 : decode cL_law 1058 = .ok (.iadd, 1) := by decide +kernel
theorem dL_law_1059 : decode cL_law 1059 = .ok (.iaload, 1) := by decide +kernel
theorem dL_law_1060 : decode cL_law 1060 = .ok (.invokevirtual 131, 3) := by decide +kernel
theorem dL_law_1063 : decode cL_law 1063 = .ok (.istore 6, 2) := by decide +kernel
theorem dL_law_1065 : decode cL_law 1065 = .ok (.aload_n 2, 1) := by decide +kernel
theorem dL_law_1066 : decode cL_law 1066 = .ok (.invokevirtual 83, 3) := by decide +kernel
theorem dL_law_1069 : decode cL_law 1069 = .ok (.iload 5, 2) := by decide +kernel
theorem dL_law_1071 : decode cL_law 1071 = .ok (.if_icmp .eq 5, 3) := by decide +kernel
theorem dL_law_1074 : decode cL_law 1074 = .ok (.iconst 0, 1) := by decide +kernel
theorem dL_law_1075 : decode cL_law 1075 = .ok (.ireturn, 1) := by decide +kernel
theorem dL_law_1076 : decode cL_law 1076 = .ok (.iload 5, 2) := by decide +kernel
theorem dL_law_1078 : decode cL_law 1078 = .ok (.ifCond .ne 15, 3) := by decide +kernel
theorem dL_law_1081 : decode cL_law 1081 = .ok (.aload_n 3, 1) := by decide +kernel
theorem dL_law_1082 : decode cL_law 1082 = .ok (.iconst 0, 1) := by decide +kernel
theorem dL_law_1083 : decode cL_law 1083 = .ok (.laload, 1) := by decide +kernel
theorem dL_law_1084 : decode cL_law 1084 = .ok (.iload 6, 2) := by decide +kernel
theorem dL_law_1086 : decode cL_law 1086 = .ok (.i2l, 1) := by decide +kernel
theorem dL_law_1087 : decode cL_law 1087 = .ok (.lcmp, 1) := by decide +kernel
theorem dL_law_1088 : decode cL_law 1088 = .ok (.ifCond .eq 5, 3) := by decide +kernel
theorem dL_law_1091 : decode cL_law 1091 = .ok (.iconst 0, 1) := by decide +kernel
theorem dL_law_1092 : decode cL_law 1092 = .ok (.ireturn, 1) := by decide +kernel
theorem dL_law_1093 : decode cL_law 1093 = .ok (.goto 250, 3) := by decide +kernel
theorem dL_law_1096 : decode cL_law 1096 = .ok (.aload_n 1, 1) := by decide +kernel
theorem dL_law_1097 : decode cL_law 1097 = .ok (.aload_n 0, 1) := by decide +kernel
theorem dL_law_1098 : decode cL_law 1098 = .ok (.iload 4, 2) := by decide +kernel
theorem dL_law_1100 : decode cL_law 1100 = .ok (.iconst 1, 1) := by decide +kernel
theorem dL_law_1101 : decode cL_law 1101 = .ok (.iadd, 1) := by decide +kernel
theorem dL_law_1102 : decode cL_law 1102 = .ok (.iaload, 1) := by decide +kernel
theorem dL_law_1103 : decode cL_law 1103 = .ok (.aload_n 3, 1) := by decide +kernel
theorem dL_law_1104 : decode cL_law 1104 = .ok (.invokestatic 132, 3) := by decide +kernel
theorem dL_law_1107 : decode cL_law 1107 = .ok (.istore 5, 2) := by decide +kernel
theorem dL_law_1109 : decode cL_law 1109 = .ok (.aload_n 2, 1) := by decide +kernel
theorem dL_law_1110 : decode cL_law 1110 = .ok (.aload_n 0, 1) := by decide +kernel
theorem dL_law_1111 : decode cL_law 1111 = .ok (.iload 4, 2) := by decide +kernel
theorem dL_law_1113 : decode cL_law 1113 = .ok (.iconst 1, 1) := by decide +kernel
theorem dL_law_1114 : decode cL_law 1114 = .ok (.iadd, 1) := by decide +kernel
theorem dL_law_1115 : decode cL_law 1115 = .ok (.iaload, 1) := by decide +kernel
theorem dL_law_1116 : decode cL_law 1116 = .ok (.invokevirtual 134, 3) := by decide +kernel
theorem dL_law_1119 : decode cL_law 1119 = .ok (.istore 6, 2) := by decide +kernel
theorem dL_law_1121 : decode cL_law 1121 = .ok (.aload_n 2, 1) := by decide +kernel
theorem dL_law_1122 : decode cL_law 1122 = .ok (.invokevirtual 83, 3) := by decide +kernel
theorem dL_law_1125 : decode cL_law 1125 = .ok (.iload 5, 2) := by decide +kernel
theorem dL_law_1127 : decode cL_law 1127 = .ok (.if_icmp .eq 5, 3) := by decide +kernel
theorem dL_law_1130 : decode cL_law 1130 = .ok (.iconst 0, 1) := by decide +kernel
theorem dL_law_1131 : decode cL_law 1131 = .ok (.ireturn, 1) := by decide +kernel
theorem dL_law_1132 : decode cL_law 1132 = .ok (.iload 5, 2) := by decide +kernel
theorem dL_law_1134 : decode cL_law 1134 = .ok (.ifCond .ne 15, 3) := by decide +kernel
theorem dL_law_1137 : decode cL_law 1137 = .ok (.aload_n 3, 1) := by decide +kernel
theorem dL_law_1138 : decode cL_law 1138 = .ok (.iconst 0, 1) := by decide +kernel
theorem dL_law_1139 : decode cL_law 1139 = .ok (.laload, 1) := by decide +kernel
theorem dL_law_1140 : decode cL_law 1140 = .ok (.iload 6, 2) := by decide +kernel
theorem dL_law_1142 : decode cL_law 1142 = .ok (.i2l, 1) := by decide +kernel
theorem dL_law_1143 : decode cL_law 1143 = .ok (.lcmp, 1) := by decide +kernel
theorem dL_law_1144 : decode cL_law 1144 = .ok (.ifCond .eq 5, 3) := by decide +kernel
theorem dL_law_1147 : decode cL_law 1147 = .ok (.iconst 0, 1) := by decide +kernel
theorem dL_law_1148 : decode cL_law 1148 = .ok (.ireturn, 1) := by decide +kernel
theorem dL_law_1149 : decode cL_law 1149 = .ok (.goto 194, 3) := by decide +kernel
theorem dL_law_1152 : decode cL_law 1152 = .ok (.aload_n 1, 1) := by decide +kernel
theorem dL_law_1153 : decode cL_law 1153 = .ok (.aload_n 0, 1) := by decide +kernel
theorem dL_law_1154 : decode cL_law 1154 = .ok (.iload 4, 2) := by decide +kernel
theorem dL_law_1156 : decode cL_law 1156 = .ok (.iconst 1, 1) := by decide +kernel
theorem dL_law_1157 : decode cL_law 1157 = .ok (.iadd, 1) := by decide +kernel
theorem dL_law_1158 : decode cL_law 1158 = .ok (.iaload, 1) := by decide +kernel
theorem dL_law_1159 : decode cL_law 1159 = .ok (.aload_n 0, 1) := by decide +kernel
theorem dL_law_1160 : decode cL_law 1160 = .ok (.iload 4, 2) := by decide +kernel
theorem dL_law_1162 : decode cL_law 1162 = .ok (.iconst 2, 1) := by decide +kernel
theorem dL_law_1163 : decode cL_law 1163 = .ok (.iadd, 1) := by decide +kernel
theorem dL_law_1164 : decode cL_law 1164 = .ok (.iaload, 1) := by decide +kernel
theorem dL_law_1165 : decode cL_law 1165 = .ok (.aload_n 3, 1) := by decide +kernel
theorem dL_law_1166 : decode cL_law 1166 = .ok (.invokestatic 135, 3) := by decide +kernel
theorem dL_law_1169 : decode cL_law 1169 = .ok (.istore 5, 2) := by decide +kernel
theorem dL_law_1171 : decode cL_law 1171 = .ok (.aload_n 2, 1) := by decide +kernel
theorem dL_law_1172 : decode cL_law 1172 = .ok (.aload_n 0, 1) := by decide +kernel
theorem dL_law_1173 : decode cL_law 1173 = .ok (.iload 4, 2) := by decide +kernel
theorem dL_law_1175 : decode cL_law 1175 = .ok (.iconst 1, 1) := by decide +kernel
theorem dL_law_1176 : decode cL_law 1176 = .ok (.iadd, 1) := by decide +kernel
theorem dL_law_1177 : decode cL_law 1177 = .ok (.iaload, 1) := by decide +kernel
theorem dL_law_1178 : decode cL_law 1178 = .ok (.aload_n 0, 1) := by decide +kernel
theorem dL_law_1179 : decode cL_law 1179 = .ok (.iload 4, 2) := by decide +kernel
theorem dL_law_1181 : decode cL_law 1181 = .ok (.iconst 2, 1) := by decide +kernel
theorem dL_law_1182 : decode cL_law 1182 = .ok (.iadd, 1) := by decide +kernel
theorem dL_law_1183 : decode cL_law 1183 = .ok (.iaload, 1) := by decide +kernel
theorem dL_law_1184 : decode cL_law 1184 = .ok (.invokevirtual 137, 3) := by decide +kernel
theorem dL_law_1187 : decode cL_law 1187 = .ok (.istore 6, 2) := by decide +kernel
theorem dL_law_1189 : decode cL_law 1189 = .ok (.aload_n 2, 1) := by decide +kernel
theorem dL_law_1190 : decode cL_law 1190 = .ok (.invokevirtual 83, 3) := by decide +kernel
theorem dL_law_1193 : decode cL_law 1193 = .ok (.iload 5, 2) := by decide +kernel
theorem dL_law_1195 : decode cL_law 1195 = .ok (.if_icmp .eq 5, 3) := by decide +kernel
theorem dL_law_1198 : decode cL_law 1198 = .ok (.iconst 0, 1) := by decide +kernel
theorem dL_law_1199 : decode cL_law 1199 = .ok (.ireturn, 1) := by decide +kernel
theorem dL_law_1200 : decode cL_law 1200 = .ok (.iload 5, 2) := by decide +kernel
theorem dL_law_1202 : decode cL_law 1202 = .ok (.ifCond .ne 15, 3) := by decide +kernel
theorem dL_law_1205 : decode cL_law 1205 = .ok (.aload_n 3, 1) := by decide +kernel
theorem dL_law_1206 : decode cL_law 1206 = .ok (.iconst 0, 1) := by decide +kernel
theorem dL_law_1207 : decode cL_law 1207 = .ok (.laload, 1) := by decide +kernel
theorem dL_law_1208 : decode cL_law 1208 = .ok (.iload 6, 2) := by decide +kernel
theorem dL_law_1210 : decode cL_law 1210 = .ok (.i2l, 1) := by decide +kernel
theorem dL_law_1211 : decode cL_law 1211 = .ok (.lcmp, 1) := by decide +kernel
theorem dL_law_1212 : decode cL_law 1212 = .ok (.ifCond .eq 5, 3) := by decide +kernel
theorem dL_law_1215 : decode cL_law 1215 = .ok (.iconst 0, 1) := by decide +kernel
theorem dL_law_1216 : decode cL_law 1216 = .ok (.ireturn, 1) := by decide +kernel
theorem dL_law_1217 : decode cL_law 1217 = .ok (.goto 126, 3) := by decide +kernel
theorem dL_law_1220 : decode cL_law 1220 = .ok (.aload_n 1, 1) := by decide +kernel
theorem dL_law_1221 : decode cL_law 1221 = .ok (.aload_n 0, 1) := by decide +kernel
theorem dL_law_1222 : decode cL_law 1222 = .ok (.iload 4, 2) := by decide +kernel
theorem dL_law_1224 : decode cL_law 1224 = .ok (.iconst 1, 1) := by decide +kernel
theorem dL_law_1225 : decode cL_law 1225 = .ok (.iadd, 1) := by decide +kernel
theorem dL_law_1226 : decode cL_law 1226 = .ok (.iaload, 1) := by decide +kernel
theorem dL_law_1227 : decode cL_law 1227 = .ok (.aload_n 0, 1) := by decide +kernel
theorem dL_law_1228 : decode cL_law 1228 = .ok (.iload 4, 2) := by decide +kernel
theorem dL_law_1230 : decode cL_law 1230 = .ok (.iconst 2, 1) := by decide +kernel
theorem dL_law_1231 : decode cL_law 1231 = .ok (.iadd, 1) := by decide +kernel
theorem dL_law_1232 : decode cL_law 1232 = .ok (.iaload, 1) := by decide +kernel
theorem dL_law_1233 : decode cL_law 1233 = .ok (.aload_n 3, 1) := by decide +kernel
theorem dL_law_1234 : decode cL_law 1234 = .ok (.invokestatic 138, 3) := by decide +kernel
theorem dL_law_1237 : decode cL_law 1237 = .ok (.istore 5, 2) := by decide +kernel
theorem dL_law_1239 : decode cL_law 1239 = .ok (.aload_n 2, 1) := by decide +kernel
theorem dL_law_1240 : decode cL_law 1240 = .ok (.aload_n 0, 1) := by decide +kernel
theorem dL_law_1241 : decode cL_law 1241 = .ok (.iload 4, 2) := by decide +kernel
theorem dL_law_1243 : decode cL_law 1243 = .ok (.iconst 1, 1) := by decide +kernel
theorem dL_law_1244 : decode cL_law 1244 = .ok (.iadd, 1) := by decide +kernel
theorem dL_law_1245 : decode cL_law 1245 = .ok (.iaload, 1) := by decide +kernel
theorem dL_law_1246 : decode cL_law 1246 = .ok (.aload_n 0, 1) := by decide +kernel
theorem dL_law_1247 : decode cL_law 1247 = .ok (.iload 4, 2) := by decide +kernel
theorem dL_law_1249 : decode cL_law 1249 = .ok (.iconst 2, 1) := by decide +kernel
theorem dL_law_1250 : decode cL_law 1250 = .ok (.iadd, 1) := by decide +kernel
theorem dL_law_1251 : decode cL_law 1251 = .ok (.iaload, 1) := by decide +kernel
theorem dL_law_1252 : decode cL_law 1252 = .ok (.invokevirtual 140, 3) := by decide +kernel
theorem dL_law_1255 : decode cL_law 1255 = .ok (.istore 6, 2) := by decide +kernel
theorem dL_law_1257 : decode cL_law 1257 = .ok (.aload_n 2, 1) := by decide +kernel
theorem dL_law_1258 : decode cL_law 1258 = .ok (.invokevirtual 83, 3) := by decide +kernel
theorem dL_law_1261 : decode cL_law 1261 = .ok (.iload 5, 2) := by decide +kernel
theorem dL_law_1263 : decode cL_law 1263 = .ok (.if_icmp .eq 5, 3) := by decide +kernel
theorem dL_law_1266 : decode cL_law 1266 = .ok (.iconst 0, 1) := by decide +kernel
theorem dL_law_1267 : decode cL_law 1267 = .ok (.ireturn, 1) := by decide +kernel
theorem dL_law_1268 : decode cL_law 1268 = .ok (.iload 5, 2) := by decide +kernel
theorem dL_law_1270 : decode cL_law 1270 = .ok (.ifCond .ne 15, 3) := by decide +kernel
theorem dL_law_1273 : decode cL_law 1273 = .ok (.aload_n 3, 1) := by decide +kernel
theorem dL_law_1274 : decode cL_law 1274 = .ok (.iconst 0, 1) := by decide +kernel
theorem dL_law_1275 : decode cL_law 1275 = .ok (.laload, 1) := by decide +kernel
theorem dL_law_1276 : decode cL_law 1276 = .ok (.iload 6, 2) := by decide +kernel
theorem dL_law_1278 : decode cL_law 1278 = .ok (.i2l, 1) := by decide +kernel
theorem dL_law_1279 : decode cL_law 1279 = .ok (.lcmp, 1) := by decide +kernel
theorem dL_law_1280 : decode cL_law 1280 = .ok (.ifCond .eq 5, 3) := by decide +kernel
theorem dL_law_1283 : decode cL_law 1283 = .ok (.iconst 0, 1) := by decide +kernel
theorem dL_law_1284 : decode cL_law 1284 = .ok (.ireturn, 1) := by decide +kernel
theorem dL_law_1285 : decode cL_law 1285 = .ok (.goto 58, 3) := by decide +kernel
theorem dL_law_1288 : decode cL_law 1288 = .ok (.aload_n 1, 1) := by decide +kernel
theorem dL_law_1289 : decode cL_law 1289 = .ok (.invokevirtual 141, 3) := by decide +kernel
theorem dL_law_1292 : decode cL_law 1292 = .ok (.dstore 5, 2) := by decide +kernel
theorem dL_law_1294 : decode cL_law 1294 = .ok (.aload_n 2, 1) := by decide +kernel
theorem dL_law_1295 : decode cL_law 1295 = .ok (.invokevirtual 145, 3) := by decide +kernel
theorem dL_law_1298 : decode cL_law 1298 = .ok (.dstore 7, 2) := by decide +kernel
theorem dL_law_1300 : decode cL_law 1300 = .ok (.dload 5, 2) := by decide +kernel
theorem dL_law_1302 : decode cL_law 1302 = .ok (.dload 7, 2) := by decide +kernel
theorem dL_law_1304 : decode cL_law 1304 = .ok (.dcmp .l, 1) := by decide +kernel
theorem dL_law_1305 : decode cL_law 1305 = .ok (.ifCond .eq 21, 3) := by decide +kernel
theorem dL_law_1308 : decode cL_law 1308 = .ok (.dload 5, 2) := by decide +kernel
theorem dL_law_1310 : decode cL_law 1310 = .ok (.dload 5, 2) := by decide +kernel
theorem dL_law_1312 : decode cL_law 1312 = .ok (.dcmp .l, 1) := by decide +kernel
theorem dL_law_1313 : decode cL_law 1313 = .ok (.ifCond .eq 11, 3) := by decide +kernel
theorem dL_law_1316 : decode cL_law 1316 = .ok (.dload 7, 2) := by decide +kernel
theorem dL_law_1318 : decode cL_law 1318 = .ok (.dload 7, 2) := by decide +kernel
theorem dL_law_1320 : decode cL_law 1320 = .ok (.dcmp .l, 1) := by decide +kernel
theorem dL_law_1321 : decode cL_law 1321 = .ok (.ifCond .ne 5, 3) := by decide +kernel
theorem dL_law_1324 : decode cL_law 1324 = .ok (.iconst 0, 1) := by decide +kernel
theorem dL_law_1325 : decode cL_law 1325 = .ok (.ireturn, 1) := by decide +kernel
theorem dL_law_1326 : decode cL_law 1326 = .ok (.goto 17, 3) := by decide +kernel
theorem dL_law_1329 : decode cL_law 1329 = .ok (.aload_n 1, 1) := by decide +kernel
theorem dL_law_1330 : decode cL_law 1330 = .ok (.invokevirtual 146, 3) := by decide +kernel
theorem dL_law_1333 : decode cL_law 1333 = .ok (.aload_n 2, 1) := by decide +kernel
theorem dL_law_1334 : decode cL_law 1334 = .ok (.invokevirtual 150, 3) := by decide +kernel
theorem dL_law_1337 : decode cL_law 1337 = .ok (.lcmp, 1) := by decide +kernel
theorem dL_law_1338 : decode cL_law 1338 = .ok (.ifCond .eq 5, 3) := by decide +kernel
theorem dL_law_1341 : decode cL_law 1341 = .ok (.iconst 0, 1) := by decide +kernel
theorem dL_law_1342 : decode cL_law 1342 = .ok (.ireturn, 1) := by decide +kernel
theorem dL_law_1343 : decode cL_law 1343 = .ok (.iinc 4 4, 3) := by decide +kernel
theorem dL_law_1346 : decode cL_law 1346 = .ok (.goto (-1323), 3) := by decide +kernel
theorem dL_law_1349 : decode cL_law 1349 = .ok (.iconst 1, 1) := by decide +kernel
theorem dL_law_1350 : decode cL_law 1350 = .ok (.ireturn, 1) := by decide +kernel
abbrev vwCl : List vw_C := [(RX0, TX0, 3), (RX1, TX1, 2), (RX2, TX2, 5), (RX3, TX3, 12), (RX4, TX4, 9)]
end
section
/-! The worlds of this proof: one list of n cells at the addresses ad k; cells 0..27 are the sledge side, 28..34 the reference, the rest what else stands there. -/
def zup (al : Nat → Nat → Int32) (k j : Nat) (v : Int32) : Nat → Nat → Int32 := fun a => if a = k then upd (al a) j v else al a
theorem zup_k {al : Nat → Nat → Int32} {k j : Nat} {v : Int32} : zup al k j v k = upd (al k) j v := if_pos rfl
theorem zup_o {al : Nat → Nat → Int32} {k j a : Nat} {v : Int32} (h : a ≠ k) : zup al k j v a = al a := if_neg h
def wL (n : Nat) (ad : Nat → Nat) (ce : Nat → va_E) : va_W := (List.range n).map (fun k => (ad k, ce k))
theorem wL_get {n : Nat} {ad : Nat → Nat} {ce : Nat → va_E} {k : Nat} (h : k < n) : (wL n ad ce)[k]? = some (ad k, ce k) := by
  unfold wL
  rw [List.getElem?_map, List.getElem?_range h]
  rfl
theorem wL_len {n : Nat} {ad : Nat → Nat} {ce : Nat → va_E} : (wL n ad ce).length = n := by
  unfold wL
  rw [List.length_map, List.length_range]
theorem wL_inv {n : Nat} {ad : Nat → Nat} {ce : Nat → va_E} {k : Nat} {q : Nat × va_E} (h : (wL n ad ce)[k]? = some q) : k < n ∧ q = (ad k, ce k) := by
  have hk : k < n := by
    have h1 := (List.getElem?_eq_some_iff.mp h).1
    rw [wL_len] at h1
    exact h1
  rw [wL_get hk] at h
  exact ⟨hk, (Option.some.inj h).symm⟩
theorem wL_set {n : Nat} {ad : Nat → Nat} {ce ce' : Nat → va_E} {k : Nat} {e : va_E} (h1 : ce' k = e) (h2 : ∀ j, j ≠ k → ce' j = ce j) : (wL n ad ce).set k (ad k, e) = wL n ad ce' := by
  apply List.ext_getElem?
  intro j
  by_cases hj : j < n
  · rw [wL_get hj]
    by_cases hk : j = k
    · subst hk
      rw [List.getElem?_set_self (by rw [wL_len]; exact hj), h1]
    · rw [List.getElem?_set_ne (Ne.symm hk), wL_get hj, h2 j hk]
  · rw [List.getElem?_eq_none (by rw [List.length_set, wL_len]; omega), List.getElem?_eq_none (by rw [wL_len]; omega)]
theorem wL_D {A : Nat → Prop} {n : Nat} {ad : Nat → Nat} {ce ce' : Nat → va_E} (h : va_D A (wL n ad ce)) : va_D A (wL n ad ce') := by
  refine ⟨fun i j p q hi hj e => ?_, fun k q hk => ?_⟩
  · obtain ⟨a1, rfl⟩ := wL_inv hi
    obtain ⟨a2, rfl⟩ := wL_inv hj
    exact h.1 i j (ad i, ce i) (ad j, ce j) (wL_get a1) (wL_get a2) e
  · obtain ⟨a1, rfl⟩ := wL_inv hk
    exact h.2 k (ad k, ce k) (wL_get a1)
def WS (D : va_G) (n : Nat) (ad : Nat → Nat) (ce : Nat → va_E) (A : Nat → Prop) (H0 H : Heap) (locs : List Loc) : Prop := va_P D vwCl (wL n ad ce) H ∧ va_D A (wL n ad ce) ∧ va_S A H0 H locs
theorem WS.to {D : va_G} {n : Nat} {ad : Nat → Nat} {ce ce' : Nat → va_E} {A : Nat → Prop} {H0 H : Heap} {locs : List Loc} (h : WS D n ad ce A H0 H locs) (e : ce = ce') : WS D n ad ce' A H0 H locs := e ▸ h
abbrev tyA (cy : Nat → ClassId) : List (ClassId × FieldType) := [(cy 0, .int), (cy 1, .object RX2), (cy 2, .object RX0), (cy 3, .array .int), (cy 4, .long)]
def Acc (n : Nat) (ad : Nat → Nat) (sz : Nat) : Nat → Prop := fun q => (∃ k, k < n ∧ q = ad k) ∨ sz ≤ q
/-- words of nest mates and casts that the rows need -/
def zN : List Cond := [
  .methodLinkNest "PumiceSledge" 33 ⟨"PumiceSledge$Shore", "<init>", "()V"⟩ "PumiceSledge",
  .fieldLinkNest "PumiceSledge" 142 "PumiceSledge$Shore" "sacks" "[I" "PumiceSledge",
  .fieldLinkNest "PumiceSledge$Sledge" 64 "PumiceSledge$Shore" "sacks" "[I" "PumiceSledge",
  .fieldLinkNest "PumiceSledge$Sledge" 49 "PumiceSledge$Shore" "lost" "I" "PumiceSledge",
  .fieldLinkNest "PumiceSledge" 205 "PumiceSledge$Shore" "lost" "I" "PumiceSledge",
  .methodLinkNest "PumiceSledge" 38 ⟨"PumiceSledge$Sledge", "<init>", "()V"⟩ "PumiceSledge",
  .fieldLinkNest "PumiceSledge" 84 "PumiceSledge$Sledge" "holds" "I" "PumiceSledge",
  .fieldLinkNest "PumiceSledge" 261 "PumiceSledge$Sledge" "weights" "[I" "PumiceSledge",
  .fieldLinkNest "PumiceSledge" 116 "PumiceSledge$Sledge" "aboard" "I" "PumiceSledge",
  .fieldLinkNest "PumiceSledge" 177 "PumiceSledge$Sledge" "height" "I" "PumiceSledge",
  .fieldLinkNest "PumiceSledge" 92 "PumiceSledge$Sledge" "course" "I" "PumiceSledge",
  .methodLinkNest "PumiceSledge" 46 ⟨"PumiceSledge$Boat", "<init>", "()V"⟩ "PumiceSledge",
  .fieldLinkNest "PumiceSledge" 126 "PumiceSledge$Boat" "mostLoad" "I" "PumiceSledge",
  .fieldLinkNest "PumiceSledge" 153 "PumiceSledge$Boat" "fore" "I" "PumiceSledge",
  .fieldLinkNest "PumiceSledge" 156 "PumiceSledge$Boat" "aft" "I" "PumiceSledge",
  .methodLinkNest "PumiceSledge$Sledge" 32 ⟨"PumiceSledge", "kindOf", "(I)I"⟩ "PumiceSledge",
  .methodLinkNest "PumiceSledge$Boat" 16 ⟨"PumiceSledge", "depthOf", "(II)I"⟩ "PumiceSledge",
  .methodLinkNest "PumiceSledge$Boat" 29 ⟨"PumiceSledge", "isWithin", "(III)Z"⟩ "PumiceSledge",
  .castable "java/lang/IndexOutOfBoundsException" "java/lang/IndexOutOfBoundsException",
  .castable "java/lang/IllegalArgumentException" "java/lang/IllegalArgumentException",
  .castable "java/lang/IllegalStateException" "java/lang/IllegalStateException",
  .castable "[I" "java/lang/Cloneable",
  .declares ⟨"java/lang/RuntimeException", "<init>", "(Ljava/lang/String;)V"⟩,
  .declares ⟨"java/lang/Exception", "<init>", "(Ljava/lang/String;)V"⟩,
  .declares ⟨"java/lang/Throwable", "<init>", "(Ljava/lang/String;)V"⟩]
def zNk : Cond → Bool
  | .fieldLinkNest .. => true
  | .methodLinkNest .. => true
  | .castable .. => true
  | .declares _ => true
  | _ => false
theorem zN_k : zN.all zNk = true := by decide +kernel
theorem zN_warm1 {w : Cond} {s U : State} (hk : zNk w = true) (hW : s.WarmedH U.vm) (h : va_Nw w s) : va_Nw w U := by
  cases w <;> first | exact va_Nw.warmF hW h | exact va_Nw.warmM hW h | exact va_Nw.warmC hW h | exact va_Nw.warmD hW h | (exact absurd hk (by decide)) | (cases hk)
theorem zNk_tab {w : Cond} (hk : zNk w = true) : w.onTables = true := by
  cases w <;> first | rfl | (cases hk)
def NW (U : State) : Prop := ∀ w ∈ zN, va_Nw w U
theorem NW.warm {s U : State} (hW : s.WarmedH U.vm) (h : NW s) : NW U := fun w hw => zN_warm1 (List.all_eq_true.mp zN_k w hw) hW (h w hw)
theorem NW.same {s U : State} (e : s.vm = U.vm) (h : NW s) : NW U := fun w hw => va_Nw.same (zNk_tab (List.all_eq_true.mp zN_k w hw)) e (h w hw)
theorem NW.at {s : State} (h : NW s) (k : Nat) {w : Cond} (hk : zN[k]? = some w) : va_Nw w s := h w (List.mem_of_getElem? hk)
/-- the texts of the messages: their places and words -/
def zT : List (Nat × String) := [
  (53, "layer is not 0 to 4"),
  (64, "stones is not 0 to 500"),
  (67, "weight is not 1 to 9"),
  (69, "hour is not 0 to 7"),
  (71, "gust is not 0 to 9"),
  (73, "holds is not 1 to 8"),
  (81, "there are 6 sledges"),
  (90, "there is no such sledge"),
  (95, "the sledge does not stand"),
  (101, "the sledge is full"),
  (103, "the layer has fewer than 10 stones"),
  (119, "load is not 100 to 900"),
  (124, "there are 4 boats"),
  (132, "there is no such boat"),
  (137, "kind is not 0 to 2"),
  (145, "there is no such sack on the beach"),
  (151, "the boat would have more than its load"),
  (165, "the boat cannot sail"),
  (173, "what is not 0 to 3"),
  (175, "what is not 0 to 5"),
  (186, "what is not 0 to 6"),
  (191, "what is not 0 to 8"),
  (211, "hours is not 1 to 60"),
  (228, "what is not 5 to 7")]
def ST (sa : Nat → Nat) (U : State) : Prop := ∀ (k i : Nat) (t : String), zT[k]? = some (i, t) → vk_R RX3 i t (sa k) U
theorem ST.warm {sa : Nat → Nat} {s U : State} (hW : s.WarmedH U.vm) (h : ST sa s) : ST sa U := fun k i t hk => vk_R.warm hW (h k i t hk)
theorem ST.same {sa : Nat → Nat} {s U : State} (e : U.vm = s.vm) (h : ST sa s) : ST sa U := fun k i t hk => vk_R.same e (h k i t hk)
def ZEnv0 (D : va_G) (cy sa : Nat → Nat) (A : Nat → Prop) (s : State) (H : Heap) : Prop := va_K D vwCl (tyA cy) s ∧ NW s ∧ ST sa s ∧ vx_Zq Bundle.tN "UNASSIGNED_STACK" Bundle.steD A s H ∧ vx_Zq Bundle.tN "SUPPRESSED_SENTINEL" Bundle.listD A s H
def ZEnv (D : va_G) (cy sa : Nat → Nat) (A : Nat → Prop) (s : State) : Prop := ZEnv0 D cy sa A s s.heap ∧ ∀ q, s.heap.size ≤ q → A q
section ZA
variable {D : va_G} {cy sa : Nat → Nat} {A B : Nat → Prop} {s U : State} {n : Nat} {ad : Nat → Nat} {ce ce' : Nat → va_E} {H0 H : Heap} {locs : List Loc}
theorem WS.acc (hA : ∀ q, H0.size ≤ q → A q) (h : WS D n ad ce A H0 H locs) : ∀ q, Acc n ad H.size q → A q := by
  intro q hq
  rcases hq with ⟨k, hk, rfl⟩ | hq
  · exact h.2.1.2 k _ (wL_get hk)
  · exact hA q (Nat.le_trans h.2.2.1 hq)
theorem WS.lt (h : WS D n ad ce A H0 H locs) {k : Nat} (hk : k < n) : ad k < H.size := (h.1 k _ (wL_get hk)).lt
theorem WS.D0 (h : WS D n ad ce A H0 H locs) {ce' : Nat → va_E} : va_D (fun _ => True) (wL n ad ce') := wL_D (h.2.1.weaken (fun _ _ _ _ => trivial))
theorem ZEnv.at (hE : ZEnv D cy sa A s) (hS : va_S A s.heap H locs) (hB : ∀ q, B q → A q) (hz : ∀ q, H.size ≤ q → B q) (hU : U.heap = H) (hW : s.WarmedH U.vm) : ZEnv D cy sa B U := by
  obtain ⟨⟨h1, h2, h3, h4, h5⟩, -⟩ := hE
  refine ⟨⟨va_K.moved hW.alike h1, NW.warm hW h2, ST.warm hW h3, ?_, ?_⟩, fun q hq => hz q (by rw [← hU]; exact hq)⟩
  · rw [hU]; exact vx_Zq.moved hW.alike ((h4.kept hS.2.1).narrow hB)
  · rw [hU]; exact vx_Zq.moved hW.alike ((h5.kept hS.2.1).narrow hB)
theorem ZEnv.call (hE : ZEnv D cy sa A s) (g : JFrame) (mk : MethodId) (a : Array Value) : ZEnv D cy sa A (s.calling g mk a) := by
  obtain ⟨⟨h1, h2, h3, h4, h5⟩, h6⟩ := hE
  exact ⟨⟨va_K.moved (u := s) (U := s.calling g mk a) (Vm.Alike.refl s.vm) h1, NW.same (s := s) (U := s.calling g mk a) rfl h2, ST.same (s := s) (U := s.calling g mk a) rfl h3, vx_Zq.moved (u := s) (U := s.calling g mk a) (Vm.Alike.refl s.vm) h4, vx_Zq.moved (u := s) (U := s.calling g mk a) (Vm.Alike.refl s.vm) h5⟩, h6⟩
/-- a method's start: its world stands -/
def PW (D : va_G) (n : Nat) (ad cy sa : Nat → Nat) (sz : Nat) (ce : Nat → va_E) (av : List Value) : Array Value → State → Prop := va_Pc av (fun U => U.heap.size = sz ∧ va_P D vwCl (wL n ad ce) U.heap ∧ va_D (fun _ => True) (wL n ad ce) ∧ ZEnv D cy sa (Acc n ad sz) U)
theorem PW_blind {sz : Nat} {av : List Value} : FrameBlind (PW D n ad cy sa sz ce av) := by
  intro a U g mk h
  obtain ⟨h0, h1, h2, h3, h4⟩ := h
  exact ⟨h0, h1, h2, h3, h4.call g mk a⟩
theorem PW_at (hE : ZEnv D cy sa A s) (h : WS D n ad ce A s.heap H locs) {av : List Value} : ∀ U : State, U.heap = H → s.WarmedH U.vm → PW D n ad cy sa H.size ce av av.toArray U := by
  intro U hU hW
  exact ⟨rfl, by rw [hU], by rw [hU]; exact h.1, h.D0, hE.at h.2.2 (h.acc hE.2) (fun q hq => Or.inr hq) hU hW⟩
theorem WS.kept (h : WS D n ad ce A H0 H locs) {H1 : Heap} {locs1 : List Loc} (hk : ∀ q : Nat, q < H.size → H1[q]? = H[q]?) (hS : va_S A H0 H1 locs1) : WS D n ad ce A H0 H1 locs1 :=
  ⟨h.1.kept (fun k q hq => hk q.1 (h.1 k q hq).lt), h.2.1, hS⟩
/-- what a method leaves: the answer's row, and the new cells -/
abbrev QWi {S : Type} (D : va_G) (n : Nat) (ad : Nat → Nat) (sz : Nat) (post : Int32 → S → Prop) (ceF : S → Nat → va_E) : Array Value → State → Outcome → State → Prop := va_Qi post (fun u t => va_P D vwCl (wL n ad (ceF u)) t.heap) (Acc n ad sz)
abbrev QWl {S : Type} (D : va_G) (n : Nat) (ad : Nat → Nat) (sz : Nat) (post : Int64 → S → Prop) (ceF : S → Nat → va_E) : Array Value → State → Outcome → State → Prop := va_Ql post (fun u t => va_P D vwCl (wL n ad (ceF u)) t.heap) (Acc n ad sz)
abbrev QWd {S : Type} (D : va_G) (n : Nat) (ad : Nat → Nat) (sz : Nat) (post : UInt64 → S → Prop) (ceF : S → Nat → va_E) : Array Value → State → Outcome → State → Prop := va_Qd post (fun u t => va_P D vwCl (wL n ad (ceF u)) t.heap) (Acc n ad sz)
abbrev QWv {S : Type} (D : va_G) (n : Nat) (ad : Nat → Nat) (sz : Nat) (post : S → Prop) (ceF : S → Nat → va_E) : Array Value → State → Outcome → State → Prop := va_Qv post (fun u t => va_P D vwCl (wL n ad (ceF u)) t.heap) (Acc n ad sz)
abbrev XW (D : va_G) (n : Nat) (ad : Nat → Nat) (sz : Nat) (bad : String → Prop) (ce : Nat → va_E) : String → State → State → Prop := vx_X (fun _ : Unit => True) (fun E _ t => bad E ∧ va_P D vwCl (wL n ad ce) t.heap) (Acc n ad sz)
end ZA
section ZS
variable {l : Launch} {y : MethodName} {ws ws' : List Cond} {rm : Room} {Qc : Array Value → State → Outcome → State → Prop} {XC : String → State → State → Prop} {mc ms : Nat} {free : Addr → Prop} {cc : ByteArray} {maxL : Nat} {ret : Option FieldType} {D : va_G} {n : Nat} {ad cy sa : Nat → Nat} {sz : Nat} {ce : Nat → va_E} {av : List Value} {own : String}
theorem zs_met (hy : plainName y.cls = true) (hw : ws = Cond.code y cc maxL ret :: ws') (ho : y.cls = own) (hav : (lg_sl av).length ≤ maxL)
    (body : ∀ p e s m args below meth c ls, CallFix p m c cc maxL s args ws own → ZEnv D cy sa (Acc n ad s.heap.size) s → WS D n ad ce (Acc n ad s.heap.size) s.heap s.heap [] → meth.sig.returnType = ret → meth.locks = false → s.heap.size = sz → args = av.toArray → lv_has ls maxL (lv_args 0 av) → W p l e rm s m args below meth c s.heap [] 0 0 (MQ below Qc args s mc ms free) (F0 m 0 ls [])) : Met l y ws rm (PW D n ad cy sa sz ce av) Qc mc ms free := by
  refine Met.ofW (cc := cc) (maxL := maxL) (ret := ret) hy hw ?_
  intro p e s m args below meth c s₁ B hml hv
  obtain ⟨rfl, hsz, hP, hD, hE⟩ := hv
  have hts := atoms_spec (ws := ws) B.pre
  have hown : s.vm.findClass own = some m.cls := by
    rw [← ho]
    exact findClass_of_methodNamed B.named
  subst hsz
  rw [lg_entry_eq]
  have hD2 : va_D (Acc n ad s.heap.size) (wL n ad ce) := ⟨hD.1, fun k q hk => by
    obtain ⟨h1, rfl⟩ := wL_inv hk
    exact Or.inl ⟨k, h1, rfl⟩⟩
  exact body p e s m _ below meth c _ ⟨B.exec, B.bytes, hml, hown, hts⟩ hE ⟨hP, hD2, va_S.rf⟩ B.returns B.notSynchronized rfl rfl (lv_entry av hav)
theorem zs_vx (hy : plainName y.cls = true) (hw : ws = Cond.code y cc maxL ret :: ws') (ho : y.cls = own) (hav : (lg_sl av).length ≤ maxL)
    (body : ∀ p e s m args below meth c ls, CallFix p m c cc maxL s args ws own → (∀ x ∈ c.exceptionTable.toList, False) → ZEnv D cy sa (Acc n ad s.heap.size) s → WS D n ad ce (Acc n ad s.heap.size) s.heap s.heap [] → meth.sig.returnType = ret → meth.locks = false → s.heap.size = sz → args = av.toArray → lv_has ls maxL (lv_args 0 av) → W p l e rm s m args below meth c s.heap [] 0 0 (vx_MQ below Qc XC args s mc ms free) (F0 m 0 ls [])) : vx_Met l y ws rm (PW D n ad cy sa sz ce av) Qc XC mc ms free := by
  refine vx_ofW (cc := cc) (maxL := maxL) (ret := ret) hy hw ?_
  intro p e s m args below meth c s₁ B hml hnx hv
  obtain ⟨rfl, hsz, hP, hD, hE⟩ := hv
  have hts := atoms_spec (ws := ws) B.pre
  have hown : s.vm.findClass own = some m.cls := by
    rw [← ho]
    exact findClass_of_methodNamed B.named
  subst hsz
  rw [lg_entry_eq]
  have hD2 : va_D (Acc n ad s.heap.size) (wL n ad ce) := ⟨hD.1, fun k q hk => by
    obtain ⟨h1, rfl⟩ := wL_inv hk
    exact Or.inl ⟨k, h1, rfl⟩⟩
  exact body p e s m _ below meth c _ ⟨B.exec, B.bytes, hml, hown, hts⟩ hnx hE ⟨hP, hD2, va_S.rf⟩ B.returns B.notSynchronized rfl rfl (lv_entry av hav)
/-- a static method of numbers alone -/
theorem zs_pure (hy : plainName y.cls = true) (hw : ws = Cond.code y cc maxL ret :: ws') (ho : y.cls = own) (hav : (lg_sl av).length ≤ maxL)
    (body : ∀ p e s m args below meth c ls, CallFix p m c cc maxL s args ws own → meth.sig.returnType = ret → meth.locks = false → args = av.toArray → lv_has ls maxL (lv_args 0 av) → W p l e rm s m args below meth c s.heap [] 0 0 (MQ below Qc args s mc ms free) (F0 m 0 ls [])) : Met l y ws rm (va_Pc av (fun _ => True)) Qc mc ms free := by
  refine Met.ofW (cc := cc) (maxL := maxL) (ret := ret) hy hw ?_
  intro p e s m args below meth c s₁ B hml hv
  obtain ⟨rfl, -⟩ := hv
  have hts := atoms_spec (ws := ws) B.pre
  have hown : s.vm.findClass own = some m.cls := by
    rw [← ho]
    exact findClass_of_methodNamed B.named
  rw [lg_entry_eq]
  exact body p e s m _ below meth c _ ⟨B.exec, B.bytes, hml, hown, hts⟩ B.returns B.notSynchronized rfl (lv_entry av hav)
end ZS
abbrev QP (v : Int32) : Array Value → State → Outcome → State → Prop := va_Qi (fun r (_ : Unit) => r = v) (fun _ _ => True) (fun _ => False)
abbrev QPl (v : Int64) : Array Value → State → Outcome → State → Prop := va_Ql (fun r (_ : Unit) => r = v) (fun _ _ => True) (fun _ => False)
section ZR
variable {p : Program} {l : Launch} {e : Env} {R : Room} {s : State} {m : MethodId} {args : Array Value} {below : List Frame} {meth : Method} {c : Code} {H : Heap} {locs : List Loc} {cells slots : Nat} {Q : State → Prop}
variable {cc : ByteArray} {nL : Nat} {Ts : List Cond} {own : String} {pc : Nat} {ls : Array Slot} {rest st0 : List Value} {D : va_G} {n : Nat} {ad cy sa : Nat → Nat} {ce ce' : Nat → va_E} {A : Nat → Prop}
/-- a field of an object of the world, read by its own file or by a nest mate -/
theorem z_get {ref C : String} {T : u_T} {N ci index : Nat} (S : CallFix p m c cc nL s args Ts own) (hE : ZEnv D cy sa A s) (hW : WS D n ad ce A s.heap H locs) (hin : ∀ w ∈ u_ws C T N, w ∈ Ts) (hc : vwCl[ci]? = some (C, T, N)) {k : Nat} (hk : k < n) {fs : List Value} (he : ce k = .inr (ci, fs)) (f : Nat) (hf : f < N) (href : (T f).1 = ref) (hlink : (Cond.fieldLink own index ref (T f).2.1 (T f).2.2.1).before args s = true) {v : Value} (hv : fs[f]? = some v) (hdg : decode cc pc = .ok (.getfield index, 3))
    (kk : W p l e R s m args below meth c H locs cells slots Q (F0 m (pc + 3) ls (v :: rest))) : W p l e R s m args below meth c H locs cells slots Q (F0 m pc ls (.ref (ad k) :: rest)) := by
  obtain ⟨hx, hb, hml, hown, hts⟩ := S
  exact va_get (D := D) (ci := ci) (C := C) (T := T) (N := N) hx hb hts hin hown hE.1.1 hW.1 k (by rw [wL_get hk, he]) hc f hf hlink (fun x h => by rw [← href]; exact h) hv hdg kk
theorem z_getN {ref C host : String} {T : u_T} {N ci index : Nat} (S : CallFix p m c cc nL s args Ts own) (hE : ZEnv D cy sa A s) (hW : WS D n ad ce A s.heap H locs) (hin : ∀ w ∈ u_ws C T N, w ∈ Ts) (hc : vwCl[ci]? = some (C, T, N)) {k : Nat} (hk : k < n) {fs : List Value} (he : ce k = .inr (ci, fs)) (f : Nat) (hf : f < N) (href : (T f).1 = ref) (i : Nat) (hlink : zN[i]? = some (Cond.fieldLinkNest own index ref (T f).2.1 (T f).2.2.1 host)) {v : Value} (hv : fs[f]? = some v) (hdg : decode cc pc = .ok (.getfield index, 3))
    (kk : W p l e R s m args below meth c H locs cells slots Q (F0 m (pc + 3) ls (v :: rest))) : W p l e R s m args below meth c H locs cells slots Q (F0 m pc ls (.ref (ad k) :: rest)) := by
  obtain ⟨hx, hb, hml, hown, hts⟩ := S
  exact va_getN (D := D) (ci := ci) (C := C) (T := T) (N := N) hx hb hts hin hown hE.1.1 hW.1 k (by rw [wL_get hk, he]) hc f hf (va_Nw.use rfl (hE.1.2.1.at i hlink)) (fun x h => by rw [← href]; exact h) hv hdg kk
theorem z_put {ref C : String} {T : u_T} {N ci index : Nat} (S : CallFix p m c cc nL s args Ts own) (hE : ZEnv D cy sa A s) (hW : WS D n ad ce A s.heap H locs) (hin : ∀ w ∈ u_ws C T N, w ∈ Ts) (ty0 : Nat → FieldType) (hty : ∀ k, k < N → parseFieldDescriptor (T k).2.2.1 = some (ty0 k)) (hnm : ∀ a, a < N → ∀ b, b < N → a ≠ b → (T a).2.1 ≠ (T b).2.1) (hc : vwCl[ci]? = some (C, T, N)) {k : Nat} (hk : k < n) {fs : List Value} (he : ce k = .inr (ci, fs)) (f : Nat) (hf : f < N) (href : (T f).1 = ref) (hlink : (Cond.fieldLink own index ref (T f).2.1 (T f).2.2.1).before args s = true) (hfin : (T f).2.2.2 = false) (hti : ty0 f = .int) (hl : f < fs.length) {x : Int32} (h1 : ce' k = .inr (ci, fs.set f (.int x))) (h2 : ∀ j, j ≠ k → ce' j = ce j) (hdg : decode cc pc = .ok (.putfield index, 3))
    (kk : ∀ (H1 : Heap) (locs1 : List Loc), WS D n ad ce' A s.heap H1 locs1 → W p l e R s m args below meth c H1 locs1 cells slots Q (F0 m (pc + 3) ls rest)) : W p l e R s m args below meth c H locs cells slots Q (F0 m pc ls (.int x :: .ref (ad k) :: rest)) := by
  obtain ⟨hx, hb, hml, hown, hts⟩ := S
  refine va_put (D := D) (ci := ci) (C := C) (T := T) (N := N) (ty := .int) hx hb hts hin ty0 hty hnm hown hE.1.1 hW.1 hW.2.1 hW.2.2 k (by rw [wL_get hk, he]) hc f hf hlink (fun x h => by rw [← href]; exact h) hfin (by rw [hty f hf, hti]) rfl rfl hl hdg (fun H1 locs1 hP hD hS => ?_)
  rw [wL_set h1 h2] at hP hD
  exact kk H1 locs1 ⟨hP, hD, hS⟩
theorem z_putN {ref C host : String} {T : u_T} {N ci index : Nat} (S : CallFix p m c cc nL s args Ts own) (hE : ZEnv D cy sa A s) (hW : WS D n ad ce A s.heap H locs) (hin : ∀ w ∈ u_ws C T N, w ∈ Ts) (ty0 : Nat → FieldType) (hty : ∀ k, k < N → parseFieldDescriptor (T k).2.2.1 = some (ty0 k)) (hnm : ∀ a, a < N → ∀ b, b < N → a ≠ b → (T a).2.1 ≠ (T b).2.1) (hc : vwCl[ci]? = some (C, T, N)) {k : Nat} (hk : k < n) {fs : List Value} (he : ce k = .inr (ci, fs)) (f : Nat) (hf : f < N) (href : (T f).1 = ref) (i : Nat) (hlink : zN[i]? = some (Cond.fieldLinkNest own index ref (T f).2.1 (T f).2.2.1 host)) (hfin : (T f).2.2.2 = false) (hti : ty0 f = .int) (hl : f < fs.length) {x : Int32} (h1 : ce' k = .inr (ci, fs.set f (.int x))) (h2 : ∀ j, j ≠ k → ce' j = ce j) (hdg : decode cc pc = .ok (.putfield index, 3))
    (kk : ∀ (H1 : Heap) (locs1 : List Loc), WS D n ad ce' A s.heap H1 locs1 → W p l e R s m args below meth c H1 locs1 cells slots Q (F0 m (pc + 3) ls rest)) : W p l e R s m args below meth c H locs cells slots Q (F0 m pc ls (.int x :: .ref (ad k) :: rest)) := by
  obtain ⟨hx, hb, hml, hown, hts⟩ := S
  refine va_putN (D := D) (ci := ci) (C := C) (T := T) (N := N) (ty := .int) hx hb hts hin ty0 hty hnm hown hE.1.1 hW.1 hW.2.1 hW.2.2 k (by rw [wL_get hk, he]) hc f hf (va_Nw.use rfl (hE.1.2.1.at i hlink)) (fun x h => by rw [← href]; exact h) hfin (by rw [hty f hf, hti]) rfl rfl hl hdg (fun H1 locs1 hP hD hS => ?_)
  rw [wL_set h1 h2] at hP hD
  exact kk H1 locs1 ⟨hP, hD, hS⟩
theorem z_inj {j N : Nat} (h : j < N) (hN : N < 2 ^ 31) : vp_in (nI j) N ∧ (nI j).toNatClampNeg = j := ⟨vp_in_nI h hN, nI_clamp (Nat.lt_trans h hN)⟩
/-- an int array of the world, read and written at the place j -/
theorem z_ald (S : CallFix p m c cc nL s args Ts own) (hE : ZEnv D cy sa A s) (hW : WS D n ad ce A s.heap H locs) {k : Nat} (hk : k < n) {N : Nat} {f : Nat → Int32} (he : ce k = .inl (cy 0, N, .inl f)) {i : Int32} (j : Nat) (hi : i = nI j) (hj : j < N) (hN : N < 2 ^ 31) {v : Int32} (hv : f j = v) (hdg : decode cc pc = .ok (.iaload, 1))
    (kk : W p l e R s m args below meth c H locs cells slots Q (F0 m (pc + 1) ls (.int v :: rest))) : W p l e R s m args below meth c H locs cells slots Q (F0 m pc ls (.int i :: .ref (ad k) :: rest)) := by
  obtain ⟨hx, hb, hml, hown, hts⟩ := S
  subst hi
  obtain ⟨h1, h2⟩ := z_inj hj hN
  refine va_iald (D := D) hx hb hE.1.1 hW.1 k 0 (by rw [wL_get hk, he]) rfl h1 hdg ?_
  rw [h2, hv]
  exact kk
theorem z_ast (S : CallFix p m c cc nL s args Ts own) (hE : ZEnv D cy sa A s) (hW : WS D n ad ce A s.heap H locs) {k : Nat} (hk : k < n) {N : Nat} {f : Nat → Int32} (he : ce k = .inl (cy 0, N, .inl f)) {i x : Int32} (j : Nat) (hi : i = nI j) (hj : j < N) (hN : N < 2 ^ 31) (h1 : ce' k = .inl (cy 0, N, .inl (upd f j x))) (h2 : ∀ j, j ≠ k → ce' j = ce j) (hdg : decode cc pc = .ok (.iastore, 1))
    (kk : ∀ (H1 : Heap) (locs1 : List Loc), WS D n ad ce' A s.heap H1 locs1 → W p l e R s m args below meth c H1 locs1 cells slots Q (F0 m (pc + 1) ls rest)) : W p l e R s m args below meth c H locs cells slots Q (F0 m pc ls (.int x :: .int i :: .ref (ad k) :: rest)) := by
  obtain ⟨hx, hb, hml, hown, hts⟩ := S
  subst hi
  obtain ⟨q1, q2⟩ := z_inj hj hN
  refine va_iast (D := D) hx hb hE.1.1 hW.1 hW.2.1 hW.2.2 k 0 (by rw [wL_get hk, he]) rfl q1 hdg (fun H1 locs1 hP hD hS => ?_)
  rw [q2, wL_set h1 h2] at hP hD
  exact kk H1 locs1 ⟨hP, hD, hS⟩
/-- a reference out of an array of the world -/
theorem z_aldq (S : CallFix p m c cc nL s args Ts own) (hE : ZEnv D cy sa A s) (hW : WS D n ad ce A s.heap H locs) {k : Nat} (hk : k < n) {N t0 : Nat} {C : String} {f : Nat → Option Nat} (he : ce k = .inl (cy t0, N, .inr (.inr (.inr (.inr f))))) (ht : (tyA cy)[t0]? = some (cy t0, .object C)) {i : Int32} (j : Nat) (hi : i = nI j) (hj : j < N) (hN : N < 2 ^ 31) {v : Value} (hv : va_rf (f j) = v) (hdg : decode cc pc = .ok (.aaload, 1))
    (kk : W p l e R s m args below meth c H locs cells slots Q (F0 m (pc + 1) ls (v :: rest))) : W p l e R s m args below meth c H locs cells slots Q (F0 m pc ls (.int i :: .ref (ad k) :: rest)) := by
  obtain ⟨hx, hb, hml, hown, hts⟩ := S
  subst hi
  obtain ⟨h1, h2⟩ := z_inj hj hN
  refine va_aldq (D := D) (C := C) hx hb hE.1.1 hW.1 k t0 (by rw [wL_get hk, he]) ht h1 hdg ?_
  rw [h2, hv]
  exact kk
theorem z_alen (S : CallFix p m c cc nL s args Ts own) (hE : ZEnv D cy sa A s) (hW : WS D n ad ce A s.heap H locs) {k : Nat} (hk : k < n) {N : Nat} {f : Nat → Int32} (he : ce k = .inl (cy 0, N, .inl f)) {v : Int32} (hv : Int32.ofNat N = v) (hdg : decode cc pc = .ok (.arraylength, 1))
    (kk : W p l e R s m args below meth c H locs cells slots Q (F0 m (pc + 1) ls (.int v :: rest))) : W p l e R s m args below meth c H locs cells slots Q (F0 m pc ls (.ref (ad k) :: rest)) := by
  obtain ⟨hx, hb, hml, hown, hts⟩ := S
  exact va_alen (D := D) hx hb hE.1.1 hW.1 k 0 (by rw [wL_get hk, he]) rfl hv hdg kk
theorem z_mmax {index : Nat} {x y : Int32} (S : CallFix p m c cc nL s args Ts own) (hz : ls.size = nL) (hlink : (Cond.methodLink own index Lib.Math.max.name).before args s = true) (hstat : (Cond.static Lib.Math.max.name).before args s = true) (hini : (Cond.initialized "java/lang/Math").before args s = true) (hcode : (Cond.code Lib.Math.max.name Lib.Math.max.code 2 (some .int)).before args s = true) (hr : 1 ≤ R.frames ∧ (rest.map fun v => v.category).sum + 13 ≤ R.locals ∧ cells ≤ R.cells ∧ slots ≤ R.slots) (hdg : decode cc pc = .ok (.invokestatic index, 3)) {v : Int32} (hv : (if x < y then y else x) = v)
    (kk : W p l e R s m args below meth c H locs cells slots Q (F0 m (pc + 3) ls (.int v :: rest))) : W p l e R s m args below meth c H locs cells slots Q (F0 m pc ls (.int y :: .int x :: rest)) := by
  obtain ⟨hx, hb, hml, hown, hts⟩ := S
  exact va_mmax hx hb (by rw [hml, hz]) hown hlink hstat hini hcode hr.1 hr.2.1 hr.2.2.1 hr.2.2.2 hdg (by rw [hv]; exact kk)
theorem z_mmin {index : Nat} {x y : Int32} (S : CallFix p m c cc nL s args Ts own) (hz : ls.size = nL) (hlink : (Cond.methodLink own index Lib.Math.min.name).before args s = true) (hstat : (Cond.static Lib.Math.min.name).before args s = true) (hini : (Cond.initialized "java/lang/Math").before args s = true) (hcode : (Cond.code Lib.Math.min.name Lib.Math.min.code 2 (some .int)).before args s = true) (hr : 1 ≤ R.frames ∧ (rest.map fun v => v.category).sum + 13 ≤ R.locals ∧ cells ≤ R.cells ∧ slots ≤ R.slots) (hdg : decode cc pc = .ok (.invokestatic index, 3)) {v : Int32} (hv : (if y < x then y else x) = v)
    (kk : W p l e R s m args below meth c H locs cells slots Q (F0 m (pc + 3) ls (.int v :: rest))) : W p l e R s m args below meth c H locs cells slots Q (F0 m pc ls (.int y :: .int x :: rest)) := by
  obtain ⟨hx, hb, hml, hown, hts⟩ := S
  exact va_mmin hx hb (by rw [hml, hz]) hown hlink hstat hini hcode hr.1 hr.2.1 hr.2.2.1 hr.2.2.2 hdg (by rw [hv]; exact kk)
theorem z_mabs {index : Nat} {x : Int32} (S : CallFix p m c cc nL s args Ts own) (hz : ls.size = nL) (hlink : (Cond.methodLink own index Lib.Math.abs.name).before args s = true) (hstat : (Cond.static Lib.Math.abs.name).before args s = true) (hini : (Cond.initialized "java/lang/Math").before args s = true) (hcode : (Cond.code Lib.Math.abs.name Lib.Math.abs.code 1 (some .int)).before args s = true) (hr : 1 ≤ R.frames ∧ (rest.map fun v => v.category).sum + 13 ≤ R.locals ∧ cells ≤ R.cells ∧ slots ≤ R.slots) (hdg : decode cc pc = .ok (.invokestatic index, 3)) {v : Int32} (hv : (if 0 ≤ x then x else 0 - x) = v)
    (kk : W p l e R s m args below meth c H locs cells slots Q (F0 m (pc + 3) ls (.int v :: rest))) : W p l e R s m args below meth c H locs cells slots Q (F0 m pc ls (.int x :: rest)) := by
  obtain ⟨hx, hb, hml, hown, hts⟩ := S
  exact va_mabs hx hb (by rw [hml, hz]) hown hlink hstat hini hcode hr.1 hr.2.1 hr.2.2.1 hr.2.2.2 hdg (by rw [hv]; exact kk)
/-- ends -/
theorem ze_i {St : Type} {post : Int32 → St → Prop} {ceF : St → Nat → va_E} {mc ms : Nat} {v : Int32} (S : CallFix p m c cc nL s args Ts own) (hW : WS D n ad ce (Acc n ad s.heap.size) s.heap H locs) (hr : meth.sig.returnType = some .int) (hlk : meth.locks = false) (u : St) (he : ce = ceF u) (hp : post v u) (h1 : cells ≤ mc) (h2 : slots ≤ ms) (hdg : decode cc pc = .ok (.ireturn, 1)) :
    W p l e R s m args below meth c H locs cells slots (MQ below (QWi D n ad s.heap.size post ceF) args s mc ms (Acc n ad s.heap.size)) (F0 m pc ls [.int v]) := by
  subst he
  refine W.widen h1 h2 ?_
  exact W.iret S.1 S.2.1 hr (fun t ht _ => ⟨⟨v, u, rfl, hp, by show va_P D vwCl _ t.heap; rw [ht]; exact hW.1⟩, hW.2.2.F ht⟩) hW.2.2.2.2 hdg hlk
theorem ze_z {St : Type} {post : Int32 → St → Prop} {ceF : St → Nat → va_E} {mc ms : Nat} {v : Int32} (S : CallFix p m c cc nL s args Ts own) (hW : WS D n ad ce (Acc n ad s.heap.size) s.heap H locs) (hr : meth.sig.returnType = some .boolean) (hlk : meth.locks = false) (u : St) (he : ce = ceF u) (hb : v = 0 ∨ v = 1) (hp : post v u) (h1 : cells ≤ mc) (h2 : slots ≤ ms) (hdg : decode cc pc = .ok (.ireturn, 1)) :
    W p l e R s m args below meth c H locs cells slots (MQ below (QWi D n ad s.heap.size post ceF) args s mc ms (Acc n ad s.heap.size)) (F0 m pc ls [.int v]) := by
  subst he
  refine W.widen h1 h2 ?_
  exact W.zret S.1 S.2.1 hr (by rcases hb with rfl | rfl <;> decide) (fun t ht _ => ⟨⟨v, u, rfl, hp, by show va_P D vwCl _ t.heap; rw [ht]; exact hW.1⟩, hW.2.2.F ht⟩) hW.2.2.2.2 hdg hlk
theorem ze_l {St : Type} {post : Int64 → St → Prop} {ceF : St → Nat → va_E} {mc ms : Nat} {v : Int64} (S : CallFix p m c cc nL s args Ts own) (hW : WS D n ad ce (Acc n ad s.heap.size) s.heap H locs) (hr : meth.sig.returnType = some .long) (hlk : meth.locks = false) (u : St) (he : ce = ceF u) (hp : post v u) (h1 : cells ≤ mc) (h2 : slots ≤ ms) (hdg : decode cc pc = .ok (.lreturn, 1)) :
    W p l e R s m args below meth c H locs cells slots (MQ below (QWl D n ad s.heap.size post ceF) args s mc ms (Acc n ad s.heap.size)) (F0 m pc ls [.long v]) := by
  subst he
  refine W.widen h1 h2 ?_
  exact W.lret S.1 S.2.1 hr (fun t ht _ => ⟨⟨v, u, rfl, hp, by show va_P D vwCl _ t.heap; rw [ht]; exact hW.1⟩, hW.2.2.F ht⟩) hW.2.2.2.2 hdg hlk
theorem ze_v {St : Type} {post : St → Prop} {ceF : St → Nat → va_E} {mc ms : Nat} (S : CallFix p m c cc nL s args Ts own) (hW : WS D n ad ce (Acc n ad s.heap.size) s.heap H locs) (hr : meth.sig.returnType = none) (hlk : meth.locks = false) (u : St) (he : ce = ceF u) (hp : post u) (h1 : cells ≤ mc) (h2 : slots ≤ ms) (hdg : decode cc pc = .ok (.return_, 1)) :
    W p l e R s m args below meth c H locs cells slots (MQ below (QWv D n ad s.heap.size post ceF) args s mc ms (Acc n ad s.heap.size)) (F0 m pc ls []) := by
  subst he
  refine W.widen h1 h2 ?_
  exact W.vret S.1 S.2.1 hr (fun t ht _ => ⟨⟨u, rfl, hp, by show va_P D vwCl _ t.heap; rw [ht]; exact hW.1⟩, hW.2.2.F ht⟩) hW.2.2.2.2 hdg hlk
theorem ze_p {mc ms : Nat} {v w : Int32} (S : CallFix p m c cc nL s args Ts own) (hr : meth.sig.returnType = some .int) (hlk : meth.locks = false) (hp : v = w) (hdg : decode cc pc = .ok (.ireturn, 1)) :
    W p l e R s m args below meth c s.heap [] mc ms (MQ below (QP w) args s mc ms (fun _ => False)) (F0 m pc ls [.int v]) := by
  subst hp
  exact W.iret S.1 S.2.1 hr (fun t ht _ => ⟨⟨v, (), rfl, rfl, trivial⟩, (va_S.rf (A := fun _ => False) (H0 := s.heap)).F ht⟩) (fun q hq => absurd hq List.not_mem_nil) hdg hlk
theorem ze_pz {mc ms : Nat} {v w : Int32} (S : CallFix p m c cc nL s args Ts own) (hr : meth.sig.returnType = some .boolean) (hlk : meth.locks = false) (hb : v = 0 ∨ v = 1) (hp : v = w) (hdg : decode cc pc = .ok (.ireturn, 1)) :
    W p l e R s m args below meth c s.heap [] mc ms (MQ below (QP w) args s mc ms (fun _ => False)) (F0 m pc ls [.int v]) := by
  subst hp
  exact W.zret S.1 S.2.1 hr (by rcases hb with rfl | rfl <;> decide) (fun t ht _ => ⟨⟨v, (), rfl, rfl, trivial⟩, (va_S.rf (A := fun _ => False) (H0 := s.heap)).F ht⟩) (fun q hq => absurd hq List.not_mem_nil) hdg hlk
theorem ze_pl {mc ms : Nat} {v w : Int64} (S : CallFix p m c cc nL s args Ts own) (hr : meth.sig.returnType = some .long) (hlk : meth.locks = false) (hp : v = w) (hdg : decode cc pc = .ok (.lreturn, 1)) :
    W p l e R s m args below meth c s.heap [] mc ms (MQ below (QPl w) args s mc ms (fun _ => False)) (F0 m pc ls [.long v]) := by
  subst hp
  exact W.lret S.1 S.2.1 hr (fun t ht _ => ⟨⟨v, (), rfl, rfl, trivial⟩, (va_S.rf (A := fun _ => False) (H0 := s.heap)).F ht⟩) (fun q hq => absurd hq List.not_mem_nil) hdg hlk
end ZR
section ZC
variable {p : Program} {l : Launch} {e : Env} {R : Room} {s : State} {m : MethodId} {args : Array Value} {below : List Frame} {meth : Method} {c : Code} {H : Heap} {locs : List Loc} {cells slots : Nat} {Q : State → Prop}
variable {cc : ByteArray} {nL : Nat} {Ts : List Cond} {own : String} {pc : Nat} {ls : Array Slot} {rest st0 : List Value} {D : va_G} {n : Nat} {ad cy sa : Nat → Nat} {ce : Nat → va_E} {A : Nat → Prop}
variable {y : MethodName} {bytes : ByteArray} {maxL mc ms N index : Nat} {ret : Option FieldType} {ws : List Cond} {rm : Room} {C host : String} {As : List Value} {St : Type} {ceF : St → Nat → va_E} {k ci : Nat} {fs : List Value} {q : vw_C} {bad : String → Prop}
/-- a receiver of the world -/
theorem z_recv (hE : ZEnv D cy sa A s) (hW : WS D n ad ce A s.heap H locs) (hk : k < n) (he : ce k = .inr (ci, fs)) (hc : vwCl[ci]? = some q) : ∃ cell : Cell, H[ad k]? = some cell ∧ cell.vm.isStatics = false ∧ s.vm.findClass q.1 = some cell.cls :=
  va_recv (q0 := k) hE.1.1 hW.1 hc (by rw [wL_get hk, he])
theorem z_cVi {post : Int32 → St → Prop} (S : CallFix p m c cc nL s args Ts own) (hE : ZEnv D cy sa A s) (hW : WS D n ad ce A s.heap H locs) (hM : Met l y ws rm (PW D n ad cy sa H.size ce (.ref (ad k) :: As)) (QWi D n ad H.size post ceF) mc ms (Acc n ad H.size)) (cw : CallW R s args own C index y bytes maxL ret ws rm mc ms N) (hk : k < n) (he : ce k = .inr (ci, fs)) (hc : vwCl[ci]? = some q) (hq : q.1 = C) (hn : As.length = N) (hz : ls.size = nL) (hst : st0 = As.reverse ++ .ref (ad k) :: rest) (hr : (rest.map fun v => v.category).sum ≤ 8) (hdg : decode cc pc = .ok (.invokevirtual index, 3)) (hf : cells + mc ≤ R.cells ∧ slots + ms ≤ R.slots)
    (kk : ∀ (r : Int32) (u : St) (H1 : Heap) (locs1 : List Loc), post r u → WS D n ad (ceF u) A s.heap H1 locs1 → W p l e R s m args below meth c H1 locs1 (cells + mc) (slots + ms) Q (F0 m (pc + 3) ls (.int r :: rest))) : W p l e R s m args below meth c H locs cells slots Q (F0 m pc ls st0) :=
  va_calli (va_runV (As := As) (rest := rest) S hM cw ⟨PW_blind, by rw [← hq]; exact z_recv hE hW hk he hc, PW_at hE hW⟩ rfl hn hz hst (lv_room hr) hdg hf) hW.2.2 (fun q _ h => hW.acc hE.2 q h) (hW.acc hE.2) (fun r u t H1 locs1 ht hvm hp hB hz1 hk1 hS1 => kk r u H1 locs1 hp ⟨by rw [← ht]; exact hB, wL_D hW.2.1, hS1⟩)
theorem z_xVi {post : Int32 → St → Prop} (S : CallFix p m c cc nL s args Ts own) (hE : ZEnv D cy sa A s) (hW : WS D n ad ce A s.heap H locs) (hM : vx_Met l y ws rm (PW D n ad cy sa H.size ce (.ref (ad k) :: As)) (QWi D n ad H.size post ceF) (XW D n ad H.size bad ce) mc ms (Acc n ad H.size)) (cw : CallW R s args own C index y bytes maxL ret ws rm mc ms N) (hk : k < n) (he : ce k = .inr (ci, fs)) (hc : vwCl[ci]? = some q) (hq : q.1 = C) (hn : As.length = N) (hz : ls.size = nL) (hst : st0 = As.reverse ++ .ref (ad k) :: rest) (hr : (rest.map fun v => v.category).sum ≤ 8) (hdg : decode cc pc = .ok (.invokevirtual index, 3)) (hf : cells + mc ≤ R.cells ∧ slots + ms ≤ R.slots)
    (kx : ∀ (E : String) (x9 : Cell) (q9 : Addr) (H1 : Heap) (locs1 : List Loc), bad E → WS D n ad ce A s.heap H1 locs1 → H1[q9]? = some x9 → x9.vm = .none → s.vm.findClass E = some x9.cls → vx_W p l e R s m args below meth c H1 locs1 (cells + mc) (slots + ms) Q (F0 m pc ls rest) q9)
    (kk : ∀ (r : Int32) (u : St) (H1 : Heap) (locs1 : List Loc), post r u → WS D n ad (ceF u) A s.heap H1 locs1 → W p l e R s m args below meth c H1 locs1 (cells + mc) (slots + ms) Q (F0 m (pc + 3) ls (.int r :: rest))) : W p l e R s m args below meth c H locs cells slots Q (F0 m pc ls st0) :=
  vx_calli (vx_runV (As := As) (rest := rest) S hM cw ⟨PW_blind, by rw [← hq]; exact z_recv hE hW hk he hc, PW_at hE hW⟩ rfl hn hz hst (lv_room hr) hdg hf) hW.2.2 (fun q _ h => hW.acc hE.2 q h) (hW.acc hE.2) (fun q _ h => hW.acc hE.2 q h) (fun E x9 q9 u t H1 locs1 ht hvm hp hB hz1 hk1 hS1 h1 h2 h3 => kx E x9 q9 H1 locs1 hB.1 ⟨by rw [← ht]; exact hB.2, wL_D hW.2.1, hS1⟩ h1 h2 h3) (fun r u t H1 locs1 ht hvm hp hB hz1 hk1 hS1 => kk r u H1 locs1 hp ⟨by rw [← ht]; exact hB, wL_D hW.2.1, hS1⟩)
theorem z_cVNi {post : Int32 → St → Prop} (S : CallFix p m c cc nL s args Ts own) (hE : ZEnv D cy sa A s) (hW : WS D n ad ce A s.heap H locs) (hM : Met l y ws rm (PW D n ad cy sa H.size ce (.ref (ad k) :: As)) (QWi D n ad H.size post ceF) mc ms (Acc n ad H.size)) (cw : va_CN R s args own index y host bytes maxL ret ws rm mc ms N ∧ (Cond.instanceMethod y).before args s = true ∧ (Cond.selects C y y).before args s = true) (hk : k < n) (he : ce k = .inr (ci, fs)) (hc : vwCl[ci]? = some q) (hq : q.1 = C) (hn : As.length = N) (hz : ls.size = nL) (hst : st0 = As.reverse ++ .ref (ad k) :: rest) (hr : (rest.map fun v => v.category).sum ≤ 8) (hdg : decode cc pc = .ok (.invokevirtual index, 3)) (hf : cells + mc ≤ R.cells ∧ slots + ms ≤ R.slots)
    (kk : ∀ (r : Int32) (u : St) (H1 : Heap) (locs1 : List Loc), post r u → WS D n ad (ceF u) A s.heap H1 locs1 → W p l e R s m args below meth c H1 locs1 (cells + mc) (slots + ms) Q (F0 m (pc + 3) ls (.int r :: rest))) : W p l e R s m args below meth c H locs cells slots Q (F0 m pc ls st0) :=
  va_calli (va_runVN (As := As) (rest := rest) S hM cw ⟨PW_blind, by rw [← hq]; exact z_recv hE hW hk he hc, PW_at hE hW⟩ rfl hn hz hst (lv_room hr) hdg hf) hW.2.2 (fun q _ h => hW.acc hE.2 q h) (hW.acc hE.2) (fun r u t H1 locs1 ht hvm hp hB hz1 hk1 hS1 => kk r u H1 locs1 hp ⟨by rw [← ht]; exact hB, wL_D hW.2.1, hS1⟩)
theorem z_cSi {post : Int32 → St → Prop} (S : CallFix p m c cc nL s args Ts own) (hE : ZEnv D cy sa A s) (hW : WS D n ad ce A s.heap H locs) (hM : Met l y ws rm (PW D n ad cy sa H.size ce As) (QWi D n ad H.size post ceF) mc ms (Acc n ad H.size)) (cw : CallB R s args own index y bytes maxL ret ws rm mc ms N ∧ (Cond.static y).before args s = true) (hn : As.length = N) (hz : ls.size = nL) (hst : st0 = As.reverse ++ rest) (hr : (rest.map fun v => v.category).sum ≤ 8) (hdg : decode cc pc = .ok (.invokestatic index, 3)) (hf : cells + mc ≤ R.cells ∧ slots + ms ≤ R.slots)
    (kk : ∀ (r : Int32) (u : St) (H1 : Heap) (locs1 : List Loc), post r u → WS D n ad (ceF u) A s.heap H1 locs1 → W p l e R s m args below meth c H1 locs1 (cells + mc) (slots + ms) Q (F0 m (pc + 3) ls (.int r :: rest))) : W p l e R s m args below meth c H locs cells slots Q (F0 m pc ls st0) :=
  va_calli (va_runS (As := As) (rest := rest) S hM cw ⟨PW_blind, PW_at hE hW⟩ rfl hn hz hst (lv_room hr) hdg hf) hW.2.2 (fun q _ h => hW.acc hE.2 q h) (hW.acc hE.2) (fun r u t H1 locs1 ht hvm hp hB hz1 hk1 hS1 => kk r u H1 locs1 hp ⟨by rw [← ht]; exact hB, wL_D hW.2.1, hS1⟩)
theorem z_cVl {post : Int64 → St → Prop} (S : CallFix p m c cc nL s args Ts own) (hE : ZEnv D cy sa A s) (hW : WS D n ad ce A s.heap H locs) (hM : Met l y ws rm (PW D n ad cy sa H.size ce (.ref (ad k) :: As)) (QWl D n ad H.size post ceF) mc ms (Acc n ad H.size)) (cw : CallW R s args own C index y bytes maxL ret ws rm mc ms N) (hk : k < n) (he : ce k = .inr (ci, fs)) (hc : vwCl[ci]? = some q) (hq : q.1 = C) (hn : As.length = N) (hz : ls.size = nL) (hst : st0 = As.reverse ++ .ref (ad k) :: rest) (hr : (rest.map fun v => v.category).sum ≤ 8) (hdg : decode cc pc = .ok (.invokevirtual index, 3)) (hf : cells + mc ≤ R.cells ∧ slots + ms ≤ R.slots)
    (kk : ∀ (r : Int64) (u : St) (H1 : Heap) (locs1 : List Loc), post r u → WS D n ad (ceF u) A s.heap H1 locs1 → W p l e R s m args below meth c H1 locs1 (cells + mc) (slots + ms) Q (F0 m (pc + 3) ls (.long r :: rest))) : W p l e R s m args below meth c H locs cells slots Q (F0 m pc ls st0) :=
  va_calll (va_runV (As := As) (rest := rest) S hM cw ⟨PW_blind, by rw [← hq]; exact z_recv hE hW hk he hc, PW_at hE hW⟩ rfl hn hz hst (lv_room hr) hdg hf) hW.2.2 (fun q _ h => hW.acc hE.2 q h) (hW.acc hE.2) (fun r u t H1 locs1 ht hvm hp hB hz1 hk1 hS1 => kk r u H1 locs1 hp ⟨by rw [← ht]; exact hB, wL_D hW.2.1, hS1⟩)
theorem z_xVl {post : Int64 → St → Prop} (S : CallFix p m c cc nL s args Ts own) (hE : ZEnv D cy sa A s) (hW : WS D n ad ce A s.heap H locs) (hM : vx_Met l y ws rm (PW D n ad cy sa H.size ce (.ref (ad k) :: As)) (QWl D n ad H.size post ceF) (XW D n ad H.size bad ce) mc ms (Acc n ad H.size)) (cw : CallW R s args own C index y bytes maxL ret ws rm mc ms N) (hk : k < n) (he : ce k = .inr (ci, fs)) (hc : vwCl[ci]? = some q) (hq : q.1 = C) (hn : As.length = N) (hz : ls.size = nL) (hst : st0 = As.reverse ++ .ref (ad k) :: rest) (hr : (rest.map fun v => v.category).sum ≤ 8) (hdg : decode cc pc = .ok (.invokevirtual index, 3)) (hf : cells + mc ≤ R.cells ∧ slots + ms ≤ R.slots)
    (kx : ∀ (E : String) (x9 : Cell) (q9 : Addr) (H1 : Heap) (locs1 : List Loc), bad E → WS D n ad ce A s.heap H1 locs1 → H1[q9]? = some x9 → x9.vm = .none → s.vm.findClass E = some x9.cls → vx_W p l e R s m args below meth c H1 locs1 (cells + mc) (slots + ms) Q (F0 m pc ls rest) q9)
    (kk : ∀ (r : Int64) (u : St) (H1 : Heap) (locs1 : List Loc), post r u → WS D n ad (ceF u) A s.heap H1 locs1 → W p l e R s m args below meth c H1 locs1 (cells + mc) (slots + ms) Q (F0 m (pc + 3) ls (.long r :: rest))) : W p l e R s m args below meth c H locs cells slots Q (F0 m pc ls st0) :=
  vx_calll (vx_runV (As := As) (rest := rest) S hM cw ⟨PW_blind, by rw [← hq]; exact z_recv hE hW hk he hc, PW_at hE hW⟩ rfl hn hz hst (lv_room hr) hdg hf) hW.2.2 (fun q _ h => hW.acc hE.2 q h) (hW.acc hE.2) (fun q _ h => hW.acc hE.2 q h) (fun E x9 q9 u t H1 locs1 ht hvm hp hB hz1 hk1 hS1 h1 h2 h3 => kx E x9 q9 H1 locs1 hB.1 ⟨by rw [← ht]; exact hB.2, wL_D hW.2.1, hS1⟩ h1 h2 h3) (fun r u t H1 locs1 ht hvm hp hB hz1 hk1 hS1 => kk r u H1 locs1 hp ⟨by rw [← ht]; exact hB, wL_D hW.2.1, hS1⟩)
theorem z_cVNl {post : Int64 → St → Prop} (S : CallFix p m c cc nL s args Ts own) (hE : ZEnv D cy sa A s) (hW : WS D n ad ce A s.heap H locs) (hM : Met l y ws rm (PW D n ad cy sa H.size ce (.ref (ad k) :: As)) (QWl D n ad H.size post ceF) mc ms (Acc n ad H.size)) (cw : va_CN R s args own index y host bytes maxL ret ws rm mc ms N ∧ (Cond.instanceMethod y).before args s = true ∧ (Cond.selects C y y).before args s = true) (hk : k < n) (he : ce k = .inr (ci, fs)) (hc : vwCl[ci]? = some q) (hq : q.1 = C) (hn : As.length = N) (hz : ls.size = nL) (hst : st0 = As.reverse ++ .ref (ad k) :: rest) (hr : (rest.map fun v => v.category).sum ≤ 8) (hdg : decode cc pc = .ok (.invokevirtual index, 3)) (hf : cells + mc ≤ R.cells ∧ slots + ms ≤ R.slots)
    (kk : ∀ (r : Int64) (u : St) (H1 : Heap) (locs1 : List Loc), post r u → WS D n ad (ceF u) A s.heap H1 locs1 → W p l e R s m args below meth c H1 locs1 (cells + mc) (slots + ms) Q (F0 m (pc + 3) ls (.long r :: rest))) : W p l e R s m args below meth c H locs cells slots Q (F0 m pc ls st0) :=
  va_calll (va_runVN (As := As) (rest := rest) S hM cw ⟨PW_blind, by rw [← hq]; exact z_recv hE hW hk he hc, PW_at hE hW⟩ rfl hn hz hst (lv_room hr) hdg hf) hW.2.2 (fun q _ h => hW.acc hE.2 q h) (hW.acc hE.2) (fun r u t H1 locs1 ht hvm hp hB hz1 hk1 hS1 => kk r u H1 locs1 hp ⟨by rw [← ht]; exact hB, wL_D hW.2.1, hS1⟩)
theorem z_cSl {post : Int64 → St → Prop} (S : CallFix p m c cc nL s args Ts own) (hE : ZEnv D cy sa A s) (hW : WS D n ad ce A s.heap H locs) (hM : Met l y ws rm (PW D n ad cy sa H.size ce As) (QWl D n ad H.size post ceF) mc ms (Acc n ad H.size)) (cw : CallB R s args own index y bytes maxL ret ws rm mc ms N ∧ (Cond.static y).before args s = true) (hn : As.length = N) (hz : ls.size = nL) (hst : st0 = As.reverse ++ rest) (hr : (rest.map fun v => v.category).sum ≤ 8) (hdg : decode cc pc = .ok (.invokestatic index, 3)) (hf : cells + mc ≤ R.cells ∧ slots + ms ≤ R.slots)
    (kk : ∀ (r : Int64) (u : St) (H1 : Heap) (locs1 : List Loc), post r u → WS D n ad (ceF u) A s.heap H1 locs1 → W p l e R s m args below meth c H1 locs1 (cells + mc) (slots + ms) Q (F0 m (pc + 3) ls (.long r :: rest))) : W p l e R s m args below meth c H locs cells slots Q (F0 m pc ls st0) :=
  va_calll (va_runS (As := As) (rest := rest) S hM cw ⟨PW_blind, PW_at hE hW⟩ rfl hn hz hst (lv_room hr) hdg hf) hW.2.2 (fun q _ h => hW.acc hE.2 q h) (hW.acc hE.2) (fun r u t H1 locs1 ht hvm hp hB hz1 hk1 hS1 => kk r u H1 locs1 hp ⟨by rw [← ht]; exact hB, wL_D hW.2.1, hS1⟩)
theorem z_cVv {post : St → Prop} (S : CallFix p m c cc nL s args Ts own) (hE : ZEnv D cy sa A s) (hW : WS D n ad ce A s.heap H locs) (hM : Met l y ws rm (PW D n ad cy sa H.size ce (.ref (ad k) :: As)) (QWv D n ad H.size post ceF) mc ms (Acc n ad H.size)) (cw : CallW R s args own C index y bytes maxL ret ws rm mc ms N) (hk : k < n) (he : ce k = .inr (ci, fs)) (hc : vwCl[ci]? = some q) (hq : q.1 = C) (hn : As.length = N) (hz : ls.size = nL) (hst : st0 = As.reverse ++ .ref (ad k) :: rest) (hr : (rest.map fun v => v.category).sum ≤ 8) (hdg : decode cc pc = .ok (.invokevirtual index, 3)) (hf : cells + mc ≤ R.cells ∧ slots + ms ≤ R.slots)
    (kk : ∀ (u : St) (H1 : Heap) (locs1 : List Loc), post u → WS D n ad (ceF u) A s.heap H1 locs1 → W p l e R s m args below meth c H1 locs1 (cells + mc) (slots + ms) Q (F0 m (pc + 3) ls (rest))) : W p l e R s m args below meth c H locs cells slots Q (F0 m pc ls st0) :=
  va_callv (va_runV (As := As) (rest := rest) S hM cw ⟨PW_blind, by rw [← hq]; exact z_recv hE hW hk he hc, PW_at hE hW⟩ rfl hn hz hst (lv_room hr) hdg hf) hW.2.2 (fun q _ h => hW.acc hE.2 q h) (hW.acc hE.2) (fun u t H1 locs1 ht hvm hp hB hz1 hk1 hS1 => kk u H1 locs1 hp ⟨by rw [← ht]; exact hB, wL_D hW.2.1, hS1⟩)
theorem z_xVv {post : St → Prop} (S : CallFix p m c cc nL s args Ts own) (hE : ZEnv D cy sa A s) (hW : WS D n ad ce A s.heap H locs) (hM : vx_Met l y ws rm (PW D n ad cy sa H.size ce (.ref (ad k) :: As)) (QWv D n ad H.size post ceF) (XW D n ad H.size bad ce) mc ms (Acc n ad H.size)) (cw : CallW R s args own C index y bytes maxL ret ws rm mc ms N) (hk : k < n) (he : ce k = .inr (ci, fs)) (hc : vwCl[ci]? = some q) (hq : q.1 = C) (hn : As.length = N) (hz : ls.size = nL) (hst : st0 = As.reverse ++ .ref (ad k) :: rest) (hr : (rest.map fun v => v.category).sum ≤ 8) (hdg : decode cc pc = .ok (.invokevirtual index, 3)) (hf : cells + mc ≤ R.cells ∧ slots + ms ≤ R.slots)
    (kx : ∀ (E : String) (x9 : Cell) (q9 : Addr) (H1 : Heap) (locs1 : List Loc), bad E → WS D n ad ce A s.heap H1 locs1 → H1[q9]? = some x9 → x9.vm = .none → s.vm.findClass E = some x9.cls → vx_W p l e R s m args below meth c H1 locs1 (cells + mc) (slots + ms) Q (F0 m pc ls rest) q9)
    (kk : ∀ (u : St) (H1 : Heap) (locs1 : List Loc), post u → WS D n ad (ceF u) A s.heap H1 locs1 → W p l e R s m args below meth c H1 locs1 (cells + mc) (slots + ms) Q (F0 m (pc + 3) ls (rest))) : W p l e R s m args below meth c H locs cells slots Q (F0 m pc ls st0) :=
  vx_callv (vx_runV (As := As) (rest := rest) S hM cw ⟨PW_blind, by rw [← hq]; exact z_recv hE hW hk he hc, PW_at hE hW⟩ rfl hn hz hst (lv_room hr) hdg hf) hW.2.2 (fun q _ h => hW.acc hE.2 q h) (hW.acc hE.2) (fun q _ h => hW.acc hE.2 q h) (fun E x9 q9 u t H1 locs1 ht hvm hp hB hz1 hk1 hS1 h1 h2 h3 => kx E x9 q9 H1 locs1 hB.1 ⟨by rw [← ht]; exact hB.2, wL_D hW.2.1, hS1⟩ h1 h2 h3) (fun u t H1 locs1 ht hvm hp hB hz1 hk1 hS1 => kk u H1 locs1 hp ⟨by rw [← ht]; exact hB, wL_D hW.2.1, hS1⟩)
theorem z_cVNv {post : St → Prop} (S : CallFix p m c cc nL s args Ts own) (hE : ZEnv D cy sa A s) (hW : WS D n ad ce A s.heap H locs) (hM : Met l y ws rm (PW D n ad cy sa H.size ce (.ref (ad k) :: As)) (QWv D n ad H.size post ceF) mc ms (Acc n ad H.size)) (cw : va_CN R s args own index y host bytes maxL ret ws rm mc ms N ∧ (Cond.instanceMethod y).before args s = true ∧ (Cond.selects C y y).before args s = true) (hk : k < n) (he : ce k = .inr (ci, fs)) (hc : vwCl[ci]? = some q) (hq : q.1 = C) (hn : As.length = N) (hz : ls.size = nL) (hst : st0 = As.reverse ++ .ref (ad k) :: rest) (hr : (rest.map fun v => v.category).sum ≤ 8) (hdg : decode cc pc = .ok (.invokevirtual index, 3)) (hf : cells + mc ≤ R.cells ∧ slots + ms ≤ R.slots)
    (kk : ∀ (u : St) (H1 : Heap) (locs1 : List Loc), post u → WS D n ad (ceF u) A s.heap H1 locs1 → W p l e R s m args below meth c H1 locs1 (cells + mc) (slots + ms) Q (F0 m (pc + 3) ls (rest))) : W p l e R s m args below meth c H locs cells slots Q (F0 m pc ls st0) :=
  va_callv (va_runVN (As := As) (rest := rest) S hM cw ⟨PW_blind, by rw [← hq]; exact z_recv hE hW hk he hc, PW_at hE hW⟩ rfl hn hz hst (lv_room hr) hdg hf) hW.2.2 (fun q _ h => hW.acc hE.2 q h) (hW.acc hE.2) (fun u t H1 locs1 ht hvm hp hB hz1 hk1 hS1 => kk u H1 locs1 hp ⟨by rw [← ht]; exact hB, wL_D hW.2.1, hS1⟩)
theorem z_cSv {post : St → Prop} (S : CallFix p m c cc nL s args Ts own) (hE : ZEnv D cy sa A s) (hW : WS D n ad ce A s.heap H locs) (hM : Met l y ws rm (PW D n ad cy sa H.size ce As) (QWv D n ad H.size post ceF) mc ms (Acc n ad H.size)) (cw : CallB R s args own index y bytes maxL ret ws rm mc ms N ∧ (Cond.static y).before args s = true) (hn : As.length = N) (hz : ls.size = nL) (hst : st0 = As.reverse ++ rest) (hr : (rest.map fun v => v.category).sum ≤ 8) (hdg : decode cc pc = .ok (.invokestatic index, 3)) (hf : cells + mc ≤ R.cells ∧ slots + ms ≤ R.slots)
    (kk : ∀ (u : St) (H1 : Heap) (locs1 : List Loc), post u → WS D n ad (ceF u) A s.heap H1 locs1 → W p l e R s m args below meth c H1 locs1 (cells + mc) (slots + ms) Q (F0 m (pc + 3) ls (rest))) : W p l e R s m args below meth c H locs cells slots Q (F0 m pc ls st0) :=
  va_callv (va_runS (As := As) (rest := rest) S hM cw ⟨PW_blind, PW_at hE hW⟩ rfl hn hz hst (lv_room hr) hdg hf) hW.2.2 (fun q _ h => hW.acc hE.2 q h) (hW.acc hE.2) (fun u t H1 locs1 ht hvm hp hB hz1 hk1 hS1 => kk u H1 locs1 hp ⟨by rw [← ht]; exact hB, wL_D hW.2.1, hS1⟩)
/-- calls of static methods of numbers -/
theorem z_pS {v : Int32} (S : CallFix p m c cc nL s args Ts own) (hE : ZEnv D cy sa A s) (hW : WS D n ad ce A s.heap H locs) (hM : Met l y ws rm (va_Pc As (fun _ => True)) (QP v) mc ms (fun _ => False)) (cw : CallB R s args own index y bytes maxL ret ws rm mc ms N ∧ (Cond.static y).before args s = true) (hn : As.length = N) (hz : ls.size = nL) (hst : st0 = As.reverse ++ rest) (hr : (rest.map fun v => v.category).sum ≤ 8) (hdg : decode cc pc = .ok (.invokestatic index, 3)) (hf : cells + mc ≤ R.cells ∧ slots + ms ≤ R.slots)
    (kk : ∀ (H1 : Heap) (locs1 : List Loc), WS D n ad ce A s.heap H1 locs1 → W p l e R s m args below meth c H1 locs1 (cells + mc) (slots + ms) Q (F0 m (pc + 3) ls (.int v :: rest))) : W p l e R s m args below meth c H locs cells slots Q (F0 m pc ls st0) := by
  refine va_calli (va_runS (As := As) (rest := rest) S hM cw ⟨fun a U g mk q => q, fun U hU hW => ⟨rfl, trivial⟩⟩ rfl hn hz hst (lv_room hr) hdg hf) hW.2.2 (fun q _ h => h.elim) (fun q h => h.elim) (fun r u t H1 locs1 ht hvm hp hB hz1 hk1 hS1 => ?_)
  subst hp
  exact kk H1 locs1 (hW.kept (fun q hq => hk1 q hq (fun h => h)) hS1)
theorem z_pSN {v : Int32} (S : CallFix p m c cc nL s args Ts own) (hE : ZEnv D cy sa A s) (hW : WS D n ad ce A s.heap H locs) (hM : Met l y ws rm (va_Pc As (fun _ => True)) (QP v) mc ms (fun _ => False)) (cw : va_CN R s args own index y host bytes maxL ret ws rm mc ms N ∧ (Cond.static y).before args s = true ∧ True) (hn : As.length = N) (hz : ls.size = nL) (hst : st0 = As.reverse ++ rest) (hr : (rest.map fun v => v.category).sum ≤ 8) (hdg : decode cc pc = .ok (.invokestatic index, 3)) (hf : cells + mc ≤ R.cells ∧ slots + ms ≤ R.slots)
    (kk : ∀ (H1 : Heap) (locs1 : List Loc), WS D n ad ce A s.heap H1 locs1 → W p l e R s m args below meth c H1 locs1 (cells + mc) (slots + ms) Q (F0 m (pc + 3) ls (.int v :: rest))) : W p l e R s m args below meth c H locs cells slots Q (F0 m pc ls st0) := by
  refine va_calli (va_runSN (As := As) (rest := rest) S hM cw ⟨fun a U g mk q => q, fun U hU hW => ⟨rfl, trivial⟩⟩ rfl hn hz hst (lv_room hr) hdg hf) hW.2.2 (fun q _ h => h.elim) (fun q h => h.elim) (fun r u t H1 locs1 ht hvm hp hB hz1 hk1 hS1 => ?_)
  subst hp
  exact kk H1 locs1 (hW.kept (fun q hq => hk1 q hq (fun h => h)) hS1)
theorem z_pSl {v : Int64} (S : CallFix p m c cc nL s args Ts own) (hE : ZEnv D cy sa A s) (hW : WS D n ad ce A s.heap H locs) (hM : Met l y ws rm (va_Pc As (fun _ => True)) (QPl v) mc ms (fun _ => False)) (cw : CallB R s args own index y bytes maxL ret ws rm mc ms N ∧ (Cond.static y).before args s = true) (hn : As.length = N) (hz : ls.size = nL) (hst : st0 = As.reverse ++ rest) (hr : (rest.map fun v => v.category).sum ≤ 8) (hdg : decode cc pc = .ok (.invokestatic index, 3)) (hf : cells + mc ≤ R.cells ∧ slots + ms ≤ R.slots)
    (kk : ∀ (H1 : Heap) (locs1 : List Loc), WS D n ad ce A s.heap H1 locs1 → W p l e R s m args below meth c H1 locs1 (cells + mc) (slots + ms) Q (F0 m (pc + 3) ls (.long v :: rest))) : W p l e R s m args below meth c H locs cells slots Q (F0 m pc ls st0) := by
  refine va_calll (va_runS (As := As) (rest := rest) S hM cw ⟨fun a U g mk q => q, fun U hU hW => ⟨rfl, trivial⟩⟩ rfl hn hz hst (lv_room hr) hdg hf) hW.2.2 (fun q _ h => h.elim) (fun q h => h.elim) (fun r u t H1 locs1 ht hvm hp hB hz1 hk1 hS1 => ?_)
  subst hp
  exact kk H1 locs1 (hW.kept (fun q hq => hk1 q hq (fun h => h)) hS1)
end ZC
end
section
/-! What the sledge side's cells 0..27 hold, as a function al of cell and place; and the reference's cells 28..34, as a function ta of cell and place. -/
def celC (cy : Nat → ClassId) (ad : Nat → Nat) (k : Nat) (a : Nat → Int32) : va_E :=
  if k = 0 then .inr (3, [.ref (ad 1), .ref (ad 2), .ref (ad 3), .ref (ad 4), .int (a 4), .ref (ad 5), .int (a 6), .ref (ad 6), .int (a 8), .int (a 9), .ref (ad 16), .ref (ad 7)])
  else if k = 1 then .inl (cy 0, 5, .inl a)
  else if k = 2 then .inl (cy 0, 5, .inl a)
  else if k = 3 then .inl (cy 0, 8, .inl a)
  else if k = 4 then .inl (cy 1, 6, .inr (.inr (.inr (.inr (fun i => some (ad (10 + i)))))))
  else if k = 5 then .inl (cy 2, 4, .inr (.inr (.inr (.inr (fun i => some (ad (24 + i)))))))
  else if k < 8 then .inr (1, [.ref (ad (k + 2)), .int (a 1)])
  else if k < 10 then .inl (cy 0, 3, .inl a)
  else if k < 17 then .inr (2, [.int (a 0), .ref (ad (k + 7)), .int (a 2), .int (a 3), .int (a 4)])
  else if k < 24 then .inl (cy 0, 8, .inl a)
  else .inr (0, [.int (a 0), .int (a 1), .int (a 2)])
def cC (cy : Nat → ClassId) (ad : Nat → Nat) (al : Nat → Nat → Int32) (ex : Nat → va_E) (k : Nat) : va_E := if k < 28 then celC cy ad k (al k) else ex k
section ZB
variable {cy : Nat → ClassId} {ad : Nat → Nat} {al : Nat → Nat → Int32} {ex : Nat → va_E}
theorem cC_in {k : Nat} (h : k < 28) : cC cy ad al ex k = celC cy ad k (al k) := if_pos h
theorem cC_0 : cC cy ad al ex 0 = .inr (3, [.ref (ad 1), .ref (ad 2), .ref (ad 3), .ref (ad 4), .int (al 0 4), .ref (ad 5), .int (al 0 6), .ref (ad 6), .int (al 0 8), .int (al 0 9), .ref (ad 16), .ref (ad 7)]) := rfl
theorem cC_1 : cC cy ad al ex 1 = .inl (cy 0, 5, .inl (al 1)) := rfl
theorem cC_2 : cC cy ad al ex 2 = .inl (cy 0, 5, .inl (al 2)) := rfl
theorem cC_3 : cC cy ad al ex 3 = .inl (cy 0, 8, .inl (al 3)) := rfl
theorem cC_4 : cC cy ad al ex 4 = .inl (cy 1, 6, .inr (.inr (.inr (.inr (fun i => some (ad (10 + i))))))) := rfl
theorem cC_5 : cC cy ad al ex 5 = .inl (cy 2, 4, .inr (.inr (.inr (.inr (fun i => some (ad (24 + i))))))) := rfl
theorem cC_h {i : Nat} (h : i < 2) : cC cy ad al ex (6 + i) = .inr (1, [.ref (ad (8 + i)), .int (al (6 + i) 1)]) := by
  rcases (show i = 0 ∨ i = 1 by omega) with rfl | rfl <;> rfl
theorem cC_hs {i : Nat} (h : i < 2) : cC cy ad al ex (8 + i) = .inl (cy 0, 3, .inl (al (8 + i))) := by
  rcases (show i = 0 ∨ i = 1 by omega) with rfl | rfl <;> rfl
theorem cC_s {i : Nat} (h : i < 7) : cC cy ad al ex (10 + i) = .inr (2, [.int (al (10 + i) 0), .ref (ad (17 + i)), .int (al (10 + i) 2), .int (al (10 + i) 3), .int (al (10 + i) 4)]) := by
  rcases (show i = 0 ∨ i = 1 ∨ i = 2 ∨ i = 3 ∨ i = 4 ∨ i = 5 ∨ i = 6 by omega) with rfl | rfl | rfl | rfl | rfl | rfl | rfl <;> rfl
theorem cC_w {i : Nat} (h : i < 7) : cC cy ad al ex (17 + i) = .inl (cy 0, 8, .inl (al (17 + i))) := by
  rcases (show i = 0 ∨ i = 1 ∨ i = 2 ∨ i = 3 ∨ i = 4 ∨ i = 5 ∨ i = 6 by omega) with rfl | rfl | rfl | rfl | rfl | rfl | rfl <;> rfl
theorem cC_b {i : Nat} (h : i < 4) : cC cy ad al ex (24 + i) = .inr (0, [.int (al (24 + i) 0), .int (al (24 + i) 1), .int (al (24 + i) 2)]) := by
  rcases (show i = 0 ∨ i = 1 ∨ i = 2 ∨ i = 3 by omega) with rfl | rfl | rfl | rfl <;> rfl
theorem cC_o {k f j : Nat} {v : Int32} (h : j ≠ k) : cC cy ad (zup al k f v) ex j = cC cy ad al ex j := by
  unfold cC
  rw [zup_o h]
theorem up_s {f : Nat → Int32} {k : Nat} {x : Int32} : upd f k x k = x := if_pos rfl
theorem up_n {f : Nat → Int32} {k j : Nat} {x : Int32} (h : j ≠ k) : upd f k x j = f j := if_neg h
theorem pC_0 {f : Nat} {v : Int32} (hf : f = 4 ∨ f = 6 ∨ f = 8 ∨ f = 9) : cC cy ad (zup al 0 f v) ex 0 = .inr (3, [.ref (ad 1), .ref (ad 2), .ref (ad 3), .ref (ad 4), .int (al 0 4), .ref (ad 5), .int (al 0 6), .ref (ad 6), .int (al 0 8), .int (al 0 9), .ref (ad 16), .ref (ad 7)].set f (.int v)) := by
  rw [cC_0, zup_k]
  rcases hf with rfl | rfl | rfl | rfl <;> rfl
theorem pC_h {i : Nat} {v : Int32} (h : i < 2) : cC cy ad (zup al (6 + i) 1 v) ex (6 + i) = .inr (1, [.ref (ad (8 + i)), .int (al (6 + i) 1)].set 1 (.int v)) := by
  rw [cC_h h, zup_k]
  rfl
theorem pC_s {i f : Nat} {v : Int32} (h : i < 7) (hf : f = 0 ∨ f = 2 ∨ f = 3 ∨ f = 4) : cC cy ad (zup al (10 + i) f v) ex (10 + i) = .inr (2, [.int (al (10 + i) 0), .ref (ad (17 + i)), .int (al (10 + i) 2), .int (al (10 + i) 3), .int (al (10 + i) 4)].set f (.int v)) := by
  rw [cC_s h, zup_k]
  rcases hf with rfl | rfl | rfl | rfl <;> rfl
theorem pC_b {i f : Nat} {v : Int32} (h : i < 4) (hf : f = 0 ∨ f = 1 ∨ f = 2) : cC cy ad (zup al (24 + i) f v) ex (24 + i) = .inr (0, [.int (al (24 + i) 0), .int (al (24 + i) 1), .int (al (24 + i) 2)].set f (.int v)) := by
  rw [cC_b h, zup_k]
  rcases hf with rfl | rfl | rfl <;> rfl
theorem pC_1 {j : Nat} {v : Int32} : cC cy ad (zup al 1 j v) ex 1 = .inl (cy 0, 5, .inl (upd (al 1) j v)) := by rw [cC_1, zup_k]
theorem pC_2 {j : Nat} {v : Int32} : cC cy ad (zup al 2 j v) ex 2 = .inl (cy 0, 5, .inl (upd (al 2) j v)) := by rw [cC_2, zup_k]
theorem pC_3 {j : Nat} {v : Int32} : cC cy ad (zup al 3 j v) ex 3 = .inl (cy 0, 8, .inl (upd (al 3) j v)) := by rw [cC_3, zup_k]
theorem pC_hs {i j : Nat} {v : Int32} (h : i < 2) : cC cy ad (zup al (8 + i) j v) ex (8 + i) = .inl (cy 0, 3, .inl (upd (al (8 + i)) j v)) := by rw [cC_hs h, zup_k]
theorem pC_w {i j : Nat} {v : Int32} (h : i < 7) : cC cy ad (zup al (17 + i) j v) ex (17 + i) = .inl (cy 0, 8, .inl (upd (al (17 + i)) j v)) := by rw [cC_w h, zup_k]
end ZB
/-- the reference's cells, by their places behind 28 -/
def celM (cy : Nat → ClassId) (ad : Nat → Nat) (k : Nat) (a : Nat → Int32) : va_E :=
  if k = 0 then .inr (4, [.int (a 0), .int (a 1), .int (a 2), .ref (ad 29), .ref (ad 30), .ref (ad 31), .ref (ad 32), .ref (ad 33), .ref (ad 34)])
  else if k = 1 then .inl (cy 0, 5, .inl a)
  else if k = 2 then .inl (cy 0, 5, .inl a)
  else if k = 3 then .inl (cy 0, 8, .inl a)
  else if k = 4 then .inl (cy 0, 72, .inl a)
  else if k = 5 then .inl (cy 0, 12, .inl a)
  else .inl (cy 0, 6, .inl a)
def cM (cy : Nat → ClassId) (ad : Nat → Nat) (ta : Nat → Nat → Int32) (ex : Nat → va_E) (k : Nat) : va_E := if 28 ≤ k ∧ k < 35 then celM cy ad (k - 28) (ta (k - 28)) else ex k
section ZM
variable {cy : Nat → ClassId} {ad : Nat → Nat} {ta : Nat → Nat → Int32} {ex : Nat → va_E}
theorem cM_0 : cM cy ad ta ex 28 = .inr (4, [.int (ta 0 0), .int (ta 0 1), .int (ta 0 2), .ref (ad 29), .ref (ad 30), .ref (ad 31), .ref (ad 32), .ref (ad 33), .ref (ad 34)]) := rfl
theorem cM_1 : cM cy ad ta ex 29 = .inl (cy 0, 5, .inl (ta 1)) := rfl
theorem cM_2 : cM cy ad ta ex 30 = .inl (cy 0, 5, .inl (ta 2)) := rfl
theorem cM_3 : cM cy ad ta ex 31 = .inl (cy 0, 8, .inl (ta 3)) := rfl
theorem cM_4 : cM cy ad ta ex 32 = .inl (cy 0, 72, .inl (ta 4)) := rfl
theorem cM_5 : cM cy ad ta ex 33 = .inl (cy 0, 12, .inl (ta 5)) := rfl
theorem cM_6 : cM cy ad ta ex 34 = .inl (cy 0, 6, .inl (ta 6)) := rfl
theorem cM_o {k f j : Nat} {v : Int32} (h : j ≠ 28 + k) : cM cy ad (zup ta k f v) ex j = cM cy ad ta ex j := by
  unfold cM
  by_cases h1 : 28 ≤ j ∧ j < 35
  · rw [if_pos h1, if_pos h1, zup_o (by omega)]
  · rw [if_neg h1, if_neg h1]
theorem pM_0 {f : Nat} {v : Int32} (hf : f = 0 ∨ f = 1 ∨ f = 2) : cM cy ad (zup ta 0 f v) ex 28 = .inr (4, [.int (ta 0 0), .int (ta 0 1), .int (ta 0 2), .ref (ad 29), .ref (ad 30), .ref (ad 31), .ref (ad 32), .ref (ad 33), .ref (ad 34)].set f (.int v)) := by
  rw [cM_0, zup_k]
  rcases hf with rfl | rfl | rfl <;> rfl
theorem pM_1 {j : Nat} {v : Int32} : cM cy ad (zup ta 1 j v) ex 29 = .inl (cy 0, 5, .inl (upd (ta 1) j v)) := by rw [cM_1, zup_k]
theorem pM_2 {j : Nat} {v : Int32} : cM cy ad (zup ta 2 j v) ex 30 = .inl (cy 0, 5, .inl (upd (ta 2) j v)) := by rw [cM_2, zup_k]
theorem pM_3 {j : Nat} {v : Int32} : cM cy ad (zup ta 3 j v) ex 31 = .inl (cy 0, 8, .inl (upd (ta 3) j v)) := by rw [cM_3, zup_k]
theorem pM_4 {j : Nat} {v : Int32} : cM cy ad (zup ta 4 j v) ex 32 = .inl (cy 0, 72, .inl (upd (ta 4) j v)) := by rw [cM_4, zup_k]
theorem pM_5 {j : Nat} {v : Int32} : cM cy ad (zup ta 5 j v) ex 33 = .inl (cy 0, 12, .inl (upd (ta 5) j v)) := by rw [cM_5, zup_k]
theorem pM_6 {j : Nat} {v : Int32} : cM cy ad (zup ta 6 j v) ex 34 = .inl (cy 0, 6, .inl (upd (ta 6) j v)) := by rw [cM_6, zup_k]
end ZM
end
section
/-! What is computed: the numbers behind the methods, said once for both sides. -/
theorem zb_t {C : Prop} [Decidable C] (h : ¬ (if C then (1 : Int32) else 0) = 0) : C := by
  by_cases c : C
  · exact c
  · rw [if_neg c] at h
    exact absurd rfl h
theorem zb_f {C : Prop} [Decidable C] (h : (if C then (1 : Int32) else 0) = 0) : ¬ C := fun c => by
  rw [if_pos c] at h
  exact absurd h (by decide)
theorem zb_pt {C : Prop} [Decidable C] (h : C) : ¬ (if C then (1 : Int32) else 0) = 0 := by
  rw [if_pos h]
  decide
theorem zb_pf {C : Prop} [Decidable C] (h : ¬ C) : (if C then (1 : Int32) else 0) = 0 := if_neg h
theorem zb_01 {C : Prop} [Decidable C] : (if C then (1 : Int32) else 0) = 0 ∨ (if C then (1 : Int32) else 0) = 1 := by
  by_cases c : C
  · rw [if_pos c]; exact Or.inr rfl
  · rw [if_neg c]; exact Or.inl rfl
theorem kC_s {i : Nat} (h : i < 7) : 10 + i < 28 := by omega
theorem kC_w {i : Nat} (h : i < 7) : 17 + i < 28 := by omega
theorem kC_b {i : Nat} (h : i < 4) : 24 + i < 28 := by omega
theorem kC_h {i : Nat} (h : i < 2) : 6 + i < 28 := by omega
theorem kC_hs {i : Nat} (h : i < 2) : 8 + i < 28 := by omega
abbrev QDi (D : va_G) (n : Nat) (ad : Nat → Nat) (sz : Nat) (v : Int32) (ce2 : Nat → va_E) : Array Value → State → Outcome → State → Prop := QWi D n ad sz (fun r (_ : Unit) => r = v) (fun _ => ce2)
abbrev QDl (D : va_G) (n : Nat) (ad : Nat → Nat) (sz : Nat) (v : Int64) (ce2 : Nat → va_E) : Array Value → State → Outcome → State → Prop := QWl D n ad sz (fun r (_ : Unit) => r = v) (fun _ => ce2)
abbrev QDv (D : va_G) (n : Nat) (ad : Nat → Nat) (sz : Nat) (ce2 : Nat → va_E) : Array Value → State → Outcome → State → Prop := QWv D n ad sz (fun (_ : Unit) => True) (fun _ => ce2)
abbrev zIn (x a b : Int32) : Prop := ¬ x < a ∧ ¬ b < x
/-- the kind of a sack by its weight -/
def knN (w : Int32) : Nat := if 30 < w then (if 60 < w then 0 else 1) else 2
def knd (w : Int32) : Int32 := if 30 < w then (if 60 < w then 0 else 1) else 2
theorem knd_nI (w : Int32) : knd w = nI (knN w) := by
  unfold knd knN
  split
  · split <;> rfl
  · rfl
theorem knN_lt (w : Int32) : knN w < 3 := by
  unfold knN
  split
  · split <;> decide
  · decide
def stw (k : Int32) : Int32 := if k = 0 then 80 else if k = 1 then 50 else 20
def zab (x : Int32) : Int32 := if 0 ≤ x then x else 0 - x
def dep (f a : Int32) : Int32 := (f + a) / 50 + zab (f - a) / 40
def zmx (x y : Int32) : Int32 := if x < y then y else x
def zmn (x y : Int32) : Int32 := if y < x then y else x
/-- sacks of the sledge i come to the shore sh: the first j of them have -/
def unlS (al : Nat → Nat → Int32) (i sh : Nat) : Nat → Nat → Nat → Int32
  | 0 => al
  | j + 1 => zup (unlS al i sh j) (8 + sh) (knN (al (17 + i) j)) (unlS al i sh j (8 + sh) (knN (al (17 + i) j)) + 1)
theorem unlS_o {al : Nat → Nat → Int32} {i sh k : Nat} (h : k ≠ 8 + sh) : ∀ j, unlS al i sh j k = al k
  | 0 => rfl
  | j + 1 => by
    show zup _ _ _ _ k = al k
    rw [zup_o h, unlS_o h j]
/-- all of them, and none is aboard -/
def unloadS (al : Nat → Nat → Int32) (i sh : Nat) : Nat → Nat → Int32 := zup (unlS al i sh (al (10 + i) 2).toNatClampNeg) (10 + i) 2 0
/-- an hour down, but the unloading: the fall of a sack, and the height -/
def slideS (al : Nat → Nat → Int32) (i sh : Nat) (g : Int32) : Nat → Nat → Int32 :=
  if ¬ al (10 + i) 2 ≤ 0 ∧ ¬ g ≤ 4 + 2 * al (10 + i) 2 then
    zup (zup (zup al (10 + i) 2 (al (10 + i) 2 - 1)) (6 + sh) 1 (al (6 + sh) 1 + 1)) (10 + i) 3 (zmx 0 (al (10 + i) 3 - (4 - (al (10 + i) 2 - 1) / 3 + g / 2)))
  else zup al (10 + i) 3 (zmx 0 (al (10 + i) 3 - (4 - al (10 + i) 2 / 3 + g / 2)))
def comeDownS (al : Nat → Nat → Int32) (i sh : Nat) (g : Int32) : Nat → Nat → Int32 :=
  if slideS al i sh g (10 + i) 3 = 0 then zup (unloadS (slideS al i sh g) i sh) (10 + i) 4 2 else slideS al i sh g
def climbS (al : Nat → Nat → Int32) (i : Nat) : Nat → Nat → Int32 :=
  if zmn 20 (al (10 + i) 3 + 5) = 20 then zup (zup al (10 + i) 3 (zmn 20 (al (10 + i) 3 + 5))) (10 + i) 4 0 else zup al (10 + i) 3 (zmn 20 (al (10 + i) 3 + 5))
def travelS (al : Nat → Nat → Int32) (i sh : Nat) (g : Int32) : Nat → Nat → Int32 :=
  if al (10 + i) 4 = 1 then comeDownS al i sh g else if al (10 + i) 4 = 2 then climbS al i else al
/-- the sum of the first j places of a row -/
def sumI (f : Nat → Int32) : Nat → Int32
  | 0 => 0
  | j + 1 => sumI f j + f j
/-- the digest goes on over the first j places of a row -/
def mixI (f : Nat → Int32) (d : Int64) : Nat → Int64
  | 0 => d
  | j + 1 => mixI f d j * 31 + (f j).toInt64
/-- throws of the sledge side -/
theorem z_castI : ∀ w ∈ (vx_atS RX3 55 "java/lang/IndexOutOfBoundsException" ["java/lang/RuntimeException", "java/lang/Exception"]).filter (fun w => !goodWord w), w ∈ zN := by decide +kernel
theorem z_castA : ∀ w ∈ (vx_atS RX3 66 "java/lang/IllegalArgumentException" ["java/lang/RuntimeException", "java/lang/Exception"]).filter (fun w => !goodWord w), w ∈ zN := by decide +kernel
theorem z_castS : ∀ w ∈ (vx_atS RX3 83 "java/lang/IllegalStateException" ["java/lang/RuntimeException", "java/lang/Exception"]).filter (fun w => !goodWord w), w ∈ zN := by decide +kernel
theorem z_otI : ∀ w ∈ Cond.classLink RX3 51 "java/lang/IndexOutOfBoundsException" :: Cond.initialized "java/lang/IndexOutOfBoundsException" :: vx_atS RX3 55 "java/lang/IndexOutOfBoundsException" ["java/lang/RuntimeException", "java/lang/Exception"], vx_ot w = true := by decide +kernel
theorem z_otA : ∀ w ∈ Cond.classLink RX3 62 "java/lang/IllegalArgumentException" :: Cond.initialized "java/lang/IllegalArgumentException" :: vx_atS RX3 66 "java/lang/IllegalArgumentException" ["java/lang/RuntimeException", "java/lang/Exception"], vx_ot w = true := by decide +kernel
theorem z_otS : ∀ w ∈ Cond.classLink RX3 79 "java/lang/IllegalStateException" :: Cond.initialized "java/lang/IllegalStateException" :: vx_atS RX3 83 "java/lang/IllegalStateException" ["java/lang/RuntimeException", "java/lang/Exception"], vx_ot w = true := by decide +kernel
section ZT
variable {p : Program} {l : Launch} {e : Env} {R : Room} {s : State} {m : MethodId} {args : Array Value} {below : List Frame} {meth : Method} {c : Code} {H : Heap} {locs : List Loc} {cells slots mc ms : Nat}
variable {cc : ByteArray} {nL : Nat} {Ts : List Cond} {pc : Nat} {ls : Array Slot} {D : va_G} {n : Nat} {ad cy sa : Nat → Nat} {ce : Nat → va_E} {bad : String → Prop} {Qc : Array Value → State → Outcome → State → Prop}
theorem z_throw {E text : String} {ik is ic : Nat} (k : Nat) (S : CallFix p m c cc nL s args Ts RX3) (hnx : ∀ x ∈ c.exceptionTable.toList, False) (hE : ZEnv D cy sa (Acc n ad s.heap.size) s) (hW : WS D n ad ce (Acc n ad s.heap.size) s.heap H locs) (hl : l.stackTraces = false) (hfit : Bundle.fit E = true)
    (hk : (Cond.classLink RX3 ik E).before args s = true) (hini : (Cond.initialized E).before args s = true) (hgood : ∀ w ∈ (vx_atS RX3 ic E ["java/lang/RuntimeException", "java/lang/Exception"]).filter goodWord, w ∈ Ts) (hcast : ∀ w ∈ (vx_atS RX3 ic E ["java/lang/RuntimeException", "java/lang/Exception"]).filter (fun w => !goodWord w), w ∈ zN) (hot : ∀ w ∈ Cond.classLink RX3 ik E :: Cond.initialized E :: vx_atS RX3 ic E ["java/lang/RuntimeException", "java/lang/Exception"], vx_ot w = true) (ht : zT[k]? = some (is, text))
    (hz : ls.size = nL) (d0 : decode cc pc = .ok (.new ik, 3)) (d3 : decode cc (pc + 3) = .ok (.dup, 1)) (d4 : decode cc (pc + 4) = .ok (.ldc is, 2)) (d6 : decode cc (pc + 6) = .ok (.invokespecial ic, 3)) (d9 : decode cc (pc + 9) = .ok (.athrow, 1))
    (hR : 5 < R.frames ∧ 82 ≤ R.locals ∧ cells + 1 ≤ R.cells ∧ slots + 6 ≤ R.slots) (hlk : meth.locks = false) (hc : cells + 1 ≤ mc) (hs : slots + 6 ≤ ms) (hbad : bad E) :
    W p l e R s m args below meth c H locs cells slots (vx_MQ below Qc (XW D n ad s.heap.size bad ce) args s mc ms (Acc n ad s.heap.size)) (F0 m pc ls []) := by
  obtain ⟨hx, hb, hml, hown, hts⟩ := S
  refine vx_throwS (A := Acc n ad s.heap.size) (names := ["java/lang/RuntimeException", "java/lang/Exception"]) hx hb hl hown hfit (by decide) hk hini (hE.1.2.2.1 k is text ht) (vx_hat (fun w hw => hts w (hgood w hw)) hcast (fun w hw => va_Nw.use (zNk_tab (List.all_eq_true.mp zN_k w hw)) (hE.1.2.1 w hw))) hot hE.1.2.2.2.1 hE.1.2.2.2.2 hW.2.2 (by rw [hml, hz]) d0 d3 d4 d6 d9 (fun x hx => (hnx x hx).elim) hR.1 (Nat.le_trans (Nat.le_of_ble_eq_true rfl) hR.2.1) hR.2.2.1 hR.2.2.2 hlk (fun t ha h1 h2 => ?_) hW.2.2.2.2 hc hs
  refine ⟨(), trivial, ⟨hbad, hW.1.kept (fun k q hq => h2 q.1 (hW.1 k q hq).lt)⟩, Nat.le_trans hW.2.2.1 h1, fun q hq hA => ?_⟩
  rw [h2 q (Nat.lt_of_lt_of_le hq hW.2.2.1)]
  exact hW.2.2.2.1 q hq hA
/-- the end of a method that may throw, where it answers -/
theorem zx_i {St : Type} {post : Int32 → St → Prop} {ceF : St → Nat → va_E} {XC : String → State → State → Prop} {v : Int32} {own : String} (S : CallFix p m c cc nL s args Ts own) (hW : WS D n ad ce (Acc n ad s.heap.size) s.heap H locs) (hr : meth.sig.returnType = some .int) (hlk : meth.locks = false) (u : St) (he : ce = ceF u) (hp : post v u) (h1 : cells ≤ mc) (h2 : slots ≤ ms) (hdg : decode cc pc = .ok (.ireturn, 1)) :
    W p l e R s m args below meth c H locs cells slots (vx_MQ below (QWi D n ad s.heap.size post ceF) XC args s mc ms (Acc n ad s.heap.size)) (F0 m pc ls [.int v]) := vx_ret (ze_i S hW hr hlk u he hp h1 h2 hdg)
end ZT
end
section
/-! methods of numbers alone -/
set_option maxHeartbeats 4000000 in
set_option maxRecDepth 100000 in
theorem cX3_isWithin_ok (l : Launch) (x a b : Int32) : Met l yX3_isWithin wsX3_isWithin ({ frames := 0, cells := 0, slots := 0, locals := 0 }) (va_Pc [.int x, .int a, .int b] (fun _ => True)) (QP (if zIn x a b then 1 else 0)) 0 0 (fun _ => False) := by
  refine zs_pure (cc := cX3_isWithin) (maxL := 3) (ret := (some .boolean)) (own := RX3) (by decide) rfl rfl (Nat.le_of_ble_eq_true rfl) ?_
  intro p e s m args below meth c ls S hr hlk hav hl
  have hx := S.1
  have hb := S.2.1
  have hown := S.2.2.2.1
  have hts := S.2.2.2.2
  have hl : lv_has ls 3 [(0, .int x), (1, .int a), (2, .int b)] := hl
  refine lv_iload_n hx hb dX3_isWithin_0 rfl (lv_at hl 0 rfl) ?_
  refine lv_iload_n hx hb dX3_isWithin_1 rfl (lv_at hl 1 rfl) ?_
  refine lv_icmp_lt (tgt := 14) hx hb dX3_isWithin_2 (by decide) (fun c2 => ?_) (fun c2 => ?_)
  · refine lv_iconst (v := 0) hx hb dX3_isWithin_14 (by decide) ?_
    exact ze_pz S hr hlk (by decide) ((if_neg (fun h => h.1 c2)).symm) dX3_isWithin_15
  · refine lv_iload_n hx hb dX3_isWithin_5 rfl (lv_at hl 0 rfl) ?_
    refine lv_iload_n hx hb dX3_isWithin_6 rfl (lv_at hl 2 rfl) ?_
    refine lv_icmp_gt (tgt := 14) hx hb dX3_isWithin_7 (by decide) (fun c7 => ?_) (fun c7 => ?_)
    · refine lv_iconst (v := 0) hx hb dX3_isWithin_14 (by decide) ?_
      exact ze_pz S hr hlk (by decide) ((if_neg (fun h => h.2 c7)).symm) dX3_isWithin_15
    · refine lv_iconst (v := 1) hx hb dX3_isWithin_10 (by decide) ?_
      refine lv_goto (tgt := 15) hx hb dX3_isWithin_11 (by decide) ?_
      exact ze_pz S hr hlk (by decide) ((if_pos ⟨c2, c7⟩).symm) dX3_isWithin_15
set_option maxHeartbeats 4000000 in
set_option maxRecDepth 100000 in
theorem cX4_isIn_ok (l : Launch) (x a b : Int32) : Met l yX4_isIn wsX4_isIn ({ frames := 0, cells := 0, slots := 0, locals := 0 }) (va_Pc [.int x, .int a, .int b] (fun _ => True)) (QP (if zIn x a b then 1 else 0)) 0 0 (fun _ => False) := by
  refine zs_pure (cc := cX4_isIn) (maxL := 3) (ret := (some .boolean)) (own := RX4) (by decide) rfl rfl (Nat.le_of_ble_eq_true rfl) ?_
  intro p e s m args below meth c ls S hr hlk hav hl
  have hx := S.1
  have hb := S.2.1
  have hown := S.2.2.2.1
  have hts := S.2.2.2.2
  have hl : lv_has ls 3 [(0, .int x), (1, .int a), (2, .int b)] := hl
  refine lv_iload_n hx hb dX4_isIn_0 rfl (lv_at hl 0 rfl) ?_
  refine lv_iload_n hx hb dX4_isIn_1 rfl (lv_at hl 1 rfl) ?_
  refine lv_icmp_lt (tgt := 14) hx hb dX4_isIn_2 (by decide) (fun c2 => ?_) (fun c2 => ?_)
  · refine lv_iconst (v := 0) hx hb dX4_isIn_14 (by decide) ?_
    exact ze_pz S hr hlk (by decide) ((if_neg (fun h => h.1 c2)).symm) dX4_isIn_15
  · refine lv_iload_n hx hb dX4_isIn_5 rfl (lv_at hl 0 rfl) ?_
    refine lv_iload_n hx hb dX4_isIn_6 rfl (lv_at hl 2 rfl) ?_
    refine lv_icmp_gt (tgt := 14) hx hb dX4_isIn_7 (by decide) (fun c7 => ?_) (fun c7 => ?_)
    · refine lv_iconst (v := 0) hx hb dX4_isIn_14 (by decide) ?_
      exact ze_pz S hr hlk (by decide) ((if_neg (fun h => h.2 c7)).symm) dX4_isIn_15
    · refine lv_iconst (v := 1) hx hb dX4_isIn_10 (by decide) ?_
      refine lv_goto (tgt := 15) hx hb dX4_isIn_11 (by decide) ?_
      exact ze_pz S hr hlk (by decide) ((if_pos ⟨c2, c7⟩).symm) dX4_isIn_15
set_option maxHeartbeats 4000000 in
set_option maxRecDepth 100000 in
theorem cX3_kindOf_ok (l : Launch) (x : Int32) : Met l yX3_kindOf wsX3_kindOf ({ frames := 0, cells := 0, slots := 0, locals := 0 }) (va_Pc [.int x] (fun _ => True)) (QP (knd x)) 0 0 (fun _ => False) := by
  refine zs_pure (cc := cX3_kindOf) (maxL := 1) (ret := (some .int)) (own := RX3) (by decide) rfl rfl (Nat.le_of_ble_eq_true rfl) ?_
  intro p e s m args below meth c ls S hr hlk hav hl
  have hx := S.1
  have hb := S.2.1
  have hown := S.2.2.2.1
  have hts := S.2.2.2.2
  have hl : lv_has ls 1 [(0, .int x)] := hl
  refine lv_iload_n hx hb dX3_kindOf_0 rfl (lv_at hl 0 rfl) ?_
  refine lv_bipush (v := 30) hx hb dX3_kindOf_1 (by decide) ?_
  refine lv_icmp_gt (tgt := 8) hx hb dX3_kindOf_3 (by decide) (fun c3 => ?_) (fun c3 => ?_)
  · refine lv_iload_n hx hb dX3_kindOf_8 rfl (lv_at hl 0 rfl) ?_
    refine lv_bipush (v := 60) hx hb dX3_kindOf_9 (by decide) ?_
    refine lv_icmp_gt (tgt := 18) hx hb dX3_kindOf_11 (by decide) (fun c11 => ?_) (fun c11 => ?_)
    · refine lv_iconst (v := 0) hx hb dX3_kindOf_18 (by decide) ?_
      exact ze_p S hr hlk (by simp only [knd, c3, c11, if_true, if_false]) dX3_kindOf_19
    · refine lv_iconst (v := 1) hx hb dX3_kindOf_14 (by decide) ?_
      refine lv_goto (tgt := 19) hx hb dX3_kindOf_15 (by decide) ?_
      exact ze_p S hr hlk (by simp only [knd, c3, c11, if_true, if_false]) dX3_kindOf_19
  · refine lv_iconst (v := 2) hx hb dX3_kindOf_6 (by decide) ?_
    exact ze_p S hr hlk (by simp only [knd, c3, if_true, if_false]) dX3_kindOf_7
set_option maxHeartbeats 4000000 in
set_option maxRecDepth 100000 in
theorem cX4_kind_ok (l : Launch) (x : Int32) : Met l yX4_kind wsX4_kind ({ frames := 0, cells := 0, slots := 0, locals := 0 }) (va_Pc [.int x] (fun _ => True)) (QP (knd x)) 0 0 (fun _ => False) := by
  refine zs_pure (cc := cX4_kind) (maxL := 1) (ret := (some .int)) (own := RX4) (by decide) rfl rfl (Nat.le_of_ble_eq_true rfl) ?_
  intro p e s m args below meth c ls S hr hlk hav hl
  have hx := S.1
  have hb := S.2.1
  have hown := S.2.2.2.1
  have hts := S.2.2.2.2
  have hl : lv_has ls 1 [(0, .int x)] := hl
  refine lv_iload_n hx hb dX4_kind_0 rfl (lv_at hl 0 rfl) ?_
  refine lv_bipush (v := 30) hx hb dX4_kind_1 (by decide) ?_
  refine lv_icmp_gt (tgt := 10) hx hb dX4_kind_3 (by decide) (fun c3 => ?_) (fun c3 => ?_)
  · refine lv_iload_n hx hb dX4_kind_10 rfl (lv_at hl 0 rfl) ?_
    refine lv_bipush (v := 60) hx hb dX4_kind_11 (by decide) ?_
    refine lv_icmp_gt (tgt := 20) hx hb dX4_kind_13 (by decide) (fun c13 => ?_) (fun c13 => ?_)
    · refine lv_iconst (v := 0) hx hb dX4_kind_20 (by decide) ?_
      exact ze_p S hr hlk (by simp only [knd, c3, c13, if_true, if_false]) dX4_kind_21
    · refine lv_iconst (v := 1) hx hb dX4_kind_16 (by decide) ?_
      refine lv_goto (tgt := 21) hx hb dX4_kind_17 (by decide) ?_
      exact ze_p S hr hlk (by simp only [knd, c3, c13, if_true, if_false]) dX4_kind_21
  · refine lv_iconst (v := 2) hx hb dX4_kind_6 (by decide) ?_
    refine lv_goto (tgt := 21) hx hb dX4_kind_7 (by decide) ?_
    exact ze_p S hr hlk (by simp only [knd, c3, if_true, if_false]) dX4_kind_21
set_option maxHeartbeats 4000000 in
set_option maxRecDepth 100000 in
theorem cX4_stowed_ok (l : Launch) (x : Int32) : Met l yX4_stowed wsX4_stowed ({ frames := 0, cells := 0, slots := 0, locals := 0 }) (va_Pc [.int x] (fun _ => True)) (QP (stw x)) 0 0 (fun _ => False) := by
  refine zs_pure (cc := cX4_stowed) (maxL := 1) (ret := (some .int)) (own := RX4) (by decide) rfl rfl (Nat.le_of_ble_eq_true rfl) ?_
  intro p e s m args below meth c ls S hr hlk hav hl
  have hx := S.1
  have hb := S.2.1
  have hown := S.2.2.2.1
  have hts := S.2.2.2.2
  have hl : lv_has ls 1 [(0, .int x)] := hl
  refine lv_iload_n hx hb dX4_stowed_0 rfl (lv_at hl 0 rfl) ?_
  refine lv_if_ne (tgt := 9) hx hb dX4_stowed_1 (by decide) (fun c1 => ?_) (fun c1 => ?_)
  · refine lv_iload_n hx hb dX4_stowed_9 rfl (lv_at hl 0 rfl) ?_
    refine lv_iconst (v := 1) hx hb dX4_stowed_10 (by decide) ?_
    refine lv_icmp_ne (tgt := 19) hx hb dX4_stowed_11 (by decide) (fun c11 => ?_) (fun c11 => ?_)
    · refine lv_bipush (v := 20) hx hb dX4_stowed_19 (by decide) ?_
      exact ze_p S hr hlk (by simp [stw, c1, c11]) dX4_stowed_21
    · refine lv_bipush (v := 50) hx hb dX4_stowed_14 (by decide) ?_
      refine lv_goto (tgt := 21) hx hb dX4_stowed_16 (by decide) ?_
      exact ze_p S hr hlk (by simp [stw, c1, c11]) dX4_stowed_21
  · refine lv_bipush (v := 80) hx hb dX4_stowed_4 (by decide) ?_
    refine lv_goto (tgt := 21) hx hb dX4_stowed_6 (by decide) ?_
    exact ze_p S hr hlk (by simp [stw, c1]) dX4_stowed_21
set_option maxHeartbeats 4000000 in
set_option maxRecDepth 100000 in
theorem cX3_depthOf_ok (l : Launch) (f a : Int32) : Met l yX3_depthOf wsX3_depthOf ({ frames := 1, cells := 0, slots := 0, locals := 60 }) (va_Pc [.int f, .int a] (fun _ => True)) (QP (dep f a)) 0 0 (fun _ => False) := by
  refine zs_pure (cc := cX3_depthOf) (maxL := 2) (ret := (some .int)) (own := RX3) (by decide) rfl rfl (Nat.le_of_ble_eq_true rfl) ?_
  intro p e s m args below meth c ls S hr hlk hav hl
  have hx := S.1
  have hb := S.2.1
  have hown := S.2.2.2.1
  have hts := S.2.2.2.2
  have hl : lv_has ls 2 [(0, .int f), (1, .int a)] := hl
  have l274 := hts (.methodLink RX3 274 Lib.Math.abs.name) (by decide +kernel)
  have ls_abs := hts (.static Lib.Math.abs.name) (by decide +kernel)
  have li_Math := hts (.initialized "java/lang/Math") (by decide +kernel)
  have lc_abs := hts (.code Lib.Math.abs.name Lib.Math.abs.code 1 (some .int)) (by decide +kernel)
  refine lv_iload_n hx hb dX3_depthOf_0 rfl (lv_at hl 0 rfl) ?_
  refine lv_iload_n hx hb dX3_depthOf_1 rfl (lv_at hl 1 rfl) ?_
  refine lv_iadd hx hb dX3_depthOf_2 ?_
  refine lv_bipush (v := 50) hx hb dX3_depthOf_3 (by decide) ?_
  refine lv_idiv hx hb dX3_depthOf_5 (by decide) ?_
  refine lv_iload_n hx hb dX3_depthOf_6 rfl (lv_at hl 0 rfl) ?_
  refine lv_iload_n hx hb dX3_depthOf_7 rfl (lv_at hl 1 rfl) ?_
  refine lv_isub hx hb dX3_depthOf_8 ?_
  refine z_mabs S hl.1 l274 ls_abs li_Math lc_abs ⟨Nat.le_of_ble_eq_true rfl, Nat.le_of_ble_eq_true rfl, Nat.le_of_ble_eq_true rfl, Nat.le_of_ble_eq_true rfl⟩ dX3_depthOf_9 (v := zab (f - a)) rfl ?_
  refine lv_bipush (v := 40) hx hb dX3_depthOf_12 (by decide) ?_
  refine lv_idiv hx hb dX3_depthOf_14 (by decide) ?_
  refine lv_iadd hx hb dX3_depthOf_15 ?_
  exact ze_p S hr hlk (rfl) dX3_depthOf_16
set_option maxHeartbeats 4000000 in
set_option maxRecDepth 100000 in
theorem cX4_depth_ok (l : Launch) (f a : Int32) : Met l yX4_depth wsX4_depth ({ frames := 1, cells := 0, slots := 0, locals := 60 }) (va_Pc [.int f, .int a] (fun _ => True)) (QP (dep f a)) 0 0 (fun _ => False) := by
  refine zs_pure (cc := cX4_depth) (maxL := 2) (ret := (some .int)) (own := RX4) (by decide) rfl rfl (Nat.le_of_ble_eq_true rfl) ?_
  intro p e s m args below meth c ls S hr hlk hav hl
  have hx := S.1
  have hb := S.2.1
  have hown := S.2.2.2.1
  have hts := S.2.2.2.2
  have hl : lv_has ls 2 [(0, .int f), (1, .int a)] := hl
  have l67 := hts (.methodLink RX4 67 Lib.Math.abs.name) (by decide +kernel)
  have ls_abs := hts (.static Lib.Math.abs.name) (by decide +kernel)
  have li_Math := hts (.initialized "java/lang/Math") (by decide +kernel)
  have lc_abs := hts (.code Lib.Math.abs.name Lib.Math.abs.code 1 (some .int)) (by decide +kernel)
  refine lv_iload_n hx hb dX4_depth_0 rfl (lv_at hl 0 rfl) ?_
  refine lv_iload_n hx hb dX4_depth_1 rfl (lv_at hl 1 rfl) ?_
  refine lv_iadd hx hb dX4_depth_2 ?_
  refine lv_bipush (v := 50) hx hb dX4_depth_3 (by decide) ?_
  refine lv_idiv hx hb dX4_depth_5 (by decide) ?_
  refine lv_iload_n hx hb dX4_depth_6 rfl (lv_at hl 0 rfl) ?_
  refine lv_iload_n hx hb dX4_depth_7 rfl (lv_at hl 1 rfl) ?_
  refine lv_isub hx hb dX4_depth_8 ?_
  refine z_mabs S hl.1 l67 ls_abs li_Math lc_abs ⟨Nat.le_of_ble_eq_true rfl, Nat.le_of_ble_eq_true rfl, Nat.le_of_ble_eq_true rfl, Nat.le_of_ble_eq_true rfl⟩ dX4_depth_9 (v := zab (f - a)) rfl ?_
  refine lv_bipush (v := 40) hx hb dX4_depth_12 (by decide) ?_
  refine lv_idiv hx hb dX4_depth_14 (by decide) ?_
  refine lv_iadd hx hb dX4_depth_15 ?_
  exact ze_p S hr hlk (rfl) dX4_depth_16
set_option maxHeartbeats 4000000 in
set_option maxRecDepth 100000 in
theorem cX3_mixed_ok (l : Launch) (d : Int64) (x : Int32) : Met l yX3_mixed wsX3_mixed ({ frames := 0, cells := 0, slots := 0, locals := 0 }) (va_Pc [.long d, .int x] (fun _ => True)) (QPl (d * 31 + x.toInt64)) 0 0 (fun _ => False) := by
  refine zs_pure (cc := cX3_mixed) (maxL := 3) (ret := (some .long)) (own := RX3) (by decide) rfl rfl (Nat.le_of_ble_eq_true rfl) ?_
  intro p e s m args below meth c ls S hr hlk hav hl
  have hx := S.1
  have hb := S.2.1
  have hown := S.2.2.2.1
  have hts := S.2.2.2.2
  have hl : lv_has ls 3 [(0, .long d), (2, .int x)] := hl
  have k267 := hts (.constantLong RX3 267 31) (by decide +kernel)
  refine lv_lload_n hx hb dX3_mixed_0 rfl (lv_at hl 0 rfl) ?_
  refine lv_ldc2 hx hb hown k267 dX3_mixed_1 ?_
  refine lv_lmul hx hb dX3_mixed_4 ?_
  refine lv_iload_n hx hb dX3_mixed_5 rfl (lv_at hl 1 rfl) ?_
  refine lv_i2l (v := (x).toInt64) hx hb dX3_mixed_6 rfl ?_
  refine lv_ladd hx hb dX3_mixed_7 ?_
  exact ze_pl S hr hlk (rfl) dX3_mixed_8
section ZP
variable {p : Program} {l : Launch} {e : Env} {R : Room} {s : State} {m : MethodId} {args : Array Value} {below : List Frame} {meth : Method} {c : Code} {H : Heap} {locs : List Loc} {cells slots mc ms : Nat} {Q : State → Prop}
variable {cc : ByteArray} {nL N index : Nat} {Ts : List Cond} {own : String} {pc : Nat} {ls : Array Slot} {rest st0 As : List Value} {y : MethodName} {bytes : ByteArray} {maxL : Nat} {ret : Option FieldType} {ws : List Cond} {rm : Room}
/-- a method of numbers calls another -/
theorem z_pp {v : Int32} (S : CallFix p m c cc nL s args Ts own) (hS : va_S (fun _ => False) s.heap H locs) (hM : Met l y ws rm (va_Pc As (fun _ => True)) (QP v) mc ms (fun _ => False)) (cw : CallB R s args own index y bytes maxL ret ws rm mc ms N ∧ (Cond.static y).before args s = true) (hn : As.length = N) (hz : ls.size = nL) (hst : st0 = As.reverse ++ rest) (hr : (rest.map fun v => v.category).sum ≤ 8) (hdg : decode cc pc = .ok (.invokestatic index, 3)) (hf : cells + mc ≤ R.cells ∧ slots + ms ≤ R.slots)
    (kk : ∀ (H1 : Heap) (locs1 : List Loc), va_S (fun _ => False) s.heap H1 locs1 → W p l e R s m args below meth c H1 locs1 (cells + mc) (slots + ms) Q (F0 m (pc + 3) ls (.int v :: rest))) : W p l e R s m args below meth c H locs cells slots Q (F0 m pc ls st0) := by
  refine va_calli (va_runS (As := As) (rest := rest) S hM cw ⟨fun a U g mk q => q, fun U hU hW => ⟨rfl, trivial⟩⟩ rfl hn hz hst (lv_room hr) hdg hf) hS (fun q _ h => h.elim) (fun q h => h.elim) (fun r u t H1 locs1 ht hvm hp hB hz1 hk1 hS1 => ?_)
  subst hp
  exact kk H1 locs1 hS1
theorem ze_pzS {v w : Int32} (S : CallFix p m c cc nL s args Ts own) (hS : va_S (fun _ => False) s.heap H locs) (hr : meth.sig.returnType = some .boolean) (hlk : meth.locks = false) (hb : v = 0 ∨ v = 1) (hp : v = w) (hdg : decode cc pc = .ok (.ireturn, 1)) :
    W p l e R s m args below meth c H locs cells slots (MQ below (QP w) args s cells slots (fun _ => False)) (F0 m pc ls [.int v]) := by
  subst hp
  exact W.zret S.1 S.2.1 hr (by rcases hb with rfl | rfl <;> decide) (fun t ht _ => ⟨⟨v, (), rfl, rfl, trivial⟩, hS.F ht⟩) (fun q hq => (hS.2.2 q hq).elim) hdg hlk
end ZP
theorem zs_pureF {l : Launch} {y : MethodName} {ws ws' : List Cond} {rm : Room} {Qc : Array Value → State → Outcome → State → Prop} {mc ms : Nat} {free : Addr → Prop} {cc : ByteArray} {maxL : Nat} {ret : Option FieldType} {av : List Value} {own : String} (hy : plainFor y = true) (hw : ws = Cond.code y cc maxL ret :: ws') (ho : y.cls = own) (hav : (lg_sl av).length ≤ maxL)
    (body : ∀ p e s m args below meth c ls, CallFix p m c cc maxL s args ws own → meth.sig.returnType = ret → meth.locks = false → args = av.toArray → lv_has ls maxL (lv_args 0 av) → W p l e rm s m args below meth c s.heap [] 0 0 (MQ below Qc args s mc ms free) (F0 m 0 ls [])) : Met l y ws rm (va_Pc av (fun _ => True)) Qc mc ms free := by
  refine va_MetF (cc := cc) (maxL := maxL) (ret := ret) hy hw ?_
  intro p e s m args below meth c s₁ B hml hv
  obtain ⟨rfl, -⟩ := hv
  have hts := atoms_spec (ws := ws) B.pre
  have hown : s.vm.findClass own = some m.cls := by
    rw [← ho]
    exact findClass_of_methodNamed B.named
  rw [lg_entry_eq]
  exact body p e s m _ below meth c _ ⟨B.exec, B.bytes, hml, hown, hts⟩ B.returns B.notSynchronized rfl (lv_entry av hav)
set_option maxHeartbeats 4000000 in
set_option maxRecDepth 100000 in
theorem cX3_isLayer_ok (l : Launch) (x : Int32) : Met l yX3_isLayer wsX3_isLayer ({ frames := 1, cells := 0, slots := 0, locals := 22 }) (va_Pc [.int x] (fun _ => True)) (QP (if zIn x 0 4 then 1 else 0)) 0 0 (fun _ => False) := by
  refine zs_pure (cc := cX3_isLayer) (maxL := 1) (ret := (some .boolean)) (own := RX3) (by decide) rfl rfl (Nat.le_of_ble_eq_true rfl) ?_
  intro p e s m args below meth c ls S hr hlk hav hl
  have hx := S.1
  have hb := S.2.1
  have hts := S.2.2.2.2
  have hl : lv_has ls 1 [(0, .int x)] := hl
  refine lv_iload_n hx hb dX3_isLayer_0 rfl (lv_at hl 0 rfl) ?_
  refine lv_iconst (v := 0) hx hb dX3_isLayer_1 (by decide) ?_
  refine lv_iconst (v := 4) hx hb dX3_isLayer_2 (by decide) ?_
  refine z_pp (As := [.int x, .int 0, .int 4]) (rest := []) S va_S.rf (cX3_isWithin_ok l x 0 4) (va_cwS 3 hts gX3_isLayer_X3_isWithin rfl rfl rfl (by decide +kernel) ⟨Nat.le_of_ble_eq_true rfl, Nat.le_of_ble_eq_true rfl⟩) rfl hl.1 rfl (Nat.le_of_ble_eq_true rfl) dX3_isLayer_3 ⟨Nat.le_of_ble_eq_true rfl, Nat.le_of_ble_eq_true rfl⟩ (fun H locs hS => ?_)
  exact ze_pzS S hS hr hlk zb_01 rfl dX3_isLayer_6
set_option maxHeartbeats 4000000 in
set_option maxRecDepth 100000 in
theorem cX3_isKind_ok (l : Launch) (x : Int32) : Met l yX3_isKind wsX3_isKind ({ frames := 1, cells := 0, slots := 0, locals := 22 }) (va_Pc [.int x] (fun _ => True)) (QP (if zIn x 0 2 then 1 else 0)) 0 0 (fun _ => False) := by
  refine zs_pure (cc := cX3_isKind) (maxL := 1) (ret := (some .boolean)) (own := RX3) (by decide) rfl rfl (Nat.le_of_ble_eq_true rfl) ?_
  intro p e s m args below meth c ls S hr hlk hav hl
  have hx := S.1
  have hb := S.2.1
  have hts := S.2.2.2.2
  have hl : lv_has ls 1 [(0, .int x)] := hl
  refine lv_iload_n hx hb dX3_isKind_0 rfl (lv_at hl 0 rfl) ?_
  refine lv_iconst (v := 0) hx hb dX3_isKind_1 (by decide) ?_
  refine lv_iconst (v := 2) hx hb dX3_isKind_2 (by decide) ?_
  refine z_pp (As := [.int x, .int 0, .int 2]) (rest := []) S va_S.rf (cX3_isWithin_ok l x 0 2) (va_cwS 3 hts gX3_isKind_X3_isWithin rfl rfl rfl (by decide +kernel) ⟨Nat.le_of_ble_eq_true rfl, Nat.le_of_ble_eq_true rfl⟩) rfl hl.1 rfl (Nat.le_of_ble_eq_true rfl) dX3_isKind_3 ⟨Nat.le_of_ble_eq_true rfl, Nat.le_of_ble_eq_true rfl⟩ (fun H locs hS => ?_)
  exact ze_pzS S hS hr hlk zb_01 rfl dX3_isKind_6
set_option maxHeartbeats 4000000 in
set_option maxRecDepth 100000 in
theorem cX4_isLayer_ok (l : Launch) (x : Int32) : Met l yX4_isLayer wsX4_isLayer ({ frames := 1, cells := 0, slots := 0, locals := 22 }) (va_Pc [.int x] (fun _ => True)) (QP (if zIn x 0 4 then 1 else 0)) 0 0 (fun _ => False) := by
  refine zs_pure (cc := cX4_isLayer) (maxL := 1) (ret := (some .boolean)) (own := RX4) (by decide) rfl rfl (Nat.le_of_ble_eq_true rfl) ?_
  intro p e s m args below meth c ls S hr hlk hav hl
  have hx := S.1
  have hb := S.2.1
  have hts := S.2.2.2.2
  have hl : lv_has ls 1 [(0, .int x)] := hl
  refine lv_iload_n hx hb dX4_isLayer_0 rfl (lv_at hl 0 rfl) ?_
  refine lv_iconst (v := 0) hx hb dX4_isLayer_1 (by decide) ?_
  refine lv_iconst (v := 4) hx hb dX4_isLayer_2 (by decide) ?_
  refine z_pp (As := [.int x, .int 0, .int 4]) (rest := []) S va_S.rf (cX4_isIn_ok l x 0 4) (va_cwS 3 hts gX4_isLayer_X4_isIn rfl rfl rfl (by decide +kernel) ⟨Nat.le_of_ble_eq_true rfl, Nat.le_of_ble_eq_true rfl⟩) rfl hl.1 rfl (Nat.le_of_ble_eq_true rfl) dX4_isLayer_3 ⟨Nat.le_of_ble_eq_true rfl, Nat.le_of_ble_eq_true rfl⟩ (fun H locs hS => ?_)
  exact ze_pzS S hS hr hlk zb_01 rfl dX4_isLayer_6
set_option maxHeartbeats 4000000 in
set_option maxRecDepth 100000 in
theorem z_xor8 (h : Nat) (hh : h < 2 ^ 31) : (0 : Int32) ≤ (nI h ^^^ 8) := by
  rw [Int32.le_iff_toInt_le]
  have h1 : (nI h ^^^ 8 : Int32).toBitVec.msb = false := by
    rw [Int32.toBitVec_xor, BitVec.msb_xor]
    have h2 : (nI h).toBitVec.msb = false := by
      rw [BitVec.msb_eq_decide, pk_tn (Nat.lt_trans hh (by decide))]
      simp
      omega
    rw [h2]
    rfl
  have h3 : (nI h ^^^ 8 : Int32).toInt = ((nI h ^^^ 8 : Int32).toBitVec.toNat : Int) := by
    show (nI h ^^^ 8 : Int32).toBitVec.toInt = _
    rw [BitVec.toInt_eq_msb_cond, h1]
    rfl
  rw [h3, Int32.toInt_zero]
  exact Int.natCast_nonneg _
theorem cJ9_floorMod_7cf53_ok (l : Launch) (h : Nat) (hh : h < 2 ^ 31) : Met l yJ9_floorMod_7cf53 wsJ9_floorMod_7cf53 ({ frames := 0, cells := 0, slots := 0, locals := 0 }) (va_Pc [.int (nI h), .int 8] (fun _ => True)) (QP (nI (h % 8))) 0 0 (fun _ => False) := by
  refine zs_pureF (cc := cJ9_floorMod_7cf53) (maxL := 3) (ret := (some .int)) (own := RJ9) (by decide +kernel) rfl rfl (Nat.le_of_ble_eq_true rfl) ?_
  intro p e s m args below meth c ls S hr hlk hav hl
  have hx := S.1
  have hb := S.2.1
  have hl : lv_has ls 3 [(0, .int (nI h)), (1, .int 8)] := hl
  refine lv_iload_n hx hb dJ9_floorMod_7cf53_0 rfl (lv_at hl 0 rfl) ?_
  refine lv_iload_n hx hb dJ9_floorMod_7cf53_1 rfl (lv_at hl 1 rfl) ?_
  refine lv_irem hx hb dJ9_floorMod_7cf53_2 (by decide) ?_
  refine lv_istore_n (lv' := [(2, .int (nI h - nI h / 8 * 8)), (0, .int (nI h)), (1, .int 8)]) hx hb dJ9_floorMod_7cf53_3 rfl hl (by decide) rfl (fun ls hl => ?_)
  refine lv_iload_n hx hb dJ9_floorMod_7cf53_4 rfl (lv_at hl 1 rfl) ?_
  refine lv_iload_n hx hb dJ9_floorMod_7cf53_5 rfl (lv_at hl 2 rfl) ?_
  refine lv_ixor hx hb dJ9_floorMod_7cf53_6 ?_
  refine lv_if_ge (tgt := 18) hx hb dJ9_floorMod_7cf53_7 (by decide) (fun _ => ?_) (fun c => absurd (z_xor8 h hh) c)
  refine lv_iload_n hx hb dJ9_floorMod_7cf53_18 rfl (lv_at hl 0 rfl) ?_
  exact ze_p S hr hlk (pk_rem (d := 8) hh (by decide) (by decide)) dJ9_floorMod_7cf53_19
end
section
/-! boats, shores, sledges -/
theorem z_pred {x : Int32} {a : Nat} (h : x = nI a) (h8 : a ≤ 8) (h0 : ¬ x ≤ 0) : x - 1 = nI (a - 1) ∧ a - 1 < 8 := by
  have h1 : 0 < a := by
    rcases Nat.eq_zero_or_pos a with q | q
    · subst q
      exact absurd (by rw [h]; decide) h0
    · exact q
  obtain ⟨b, rfl⟩ : ∃ b, a = b + 1 := ⟨a - 1, by omega⟩
  exact ⟨by rw [h]; exact nI_pred b, by omega⟩
set_option maxHeartbeats 4000000 in
set_option maxRecDepth 100000 in
theorem cX0_trim_ok (l : Launch) (D : va_G) (n : Nat) (ad cy sa : Nat → Nat) (sz : Nat) (hn : 28 ≤ n) (al : Nat → Nat → Int32) (ex : Nat → va_E) (i : Nat) (hb4 : i < 4) : Met l yX0_trim wsX0_trim ({ frames := 0, cells := 0, slots := 0, locals := 0 }) (PW D n ad cy sa sz (cC cy ad al ex) [.ref (ad (24 + i))]) (QDi D n ad sz (al (24 + i) 1 - al (24 + i) 2) (cC cy ad al ex)) 0 0 (Acc n ad sz) := by
  refine zs_met (cc := cX0_trim) (maxL := 1) (ret := (some .int)) (own := RX0) (by decide) rfl rfl (Nat.le_of_ble_eq_true rfl) ?_
  intro p e s m args below meth c ls S hE hW hr hlk hsz hav hl
  subst hsz
  have hx := S.1
  have hb := S.2.1
  have hown := S.2.2.2.1
  have hts := S.2.2.2.2
  have hl : lv_has ls 1 [(0, .ref (ad (24 + i)))] := hl
  have f7 := hts (.fieldLink RX0 7 "PumiceSledge$Boat" "fore" "I") (by decide +kernel)
  have hi0 : ∀ w ∈ wsX00, w ∈ wsX0_trim := by decide +kernel
  have f13 := hts (.fieldLink RX0 13 "PumiceSledge$Boat" "aft" "I") (by decide +kernel)
  refine lv_aload_n hx hb dX0_trim_0 rfl (lv_at hl 0 rfl) ?_
  refine z_get (C := RX0) (T := TX0) (N := 3) (ci := 0) S hE hW hi0 rfl (Nat.lt_of_lt_of_le (kC_b hb4) hn) (cC_b (i := i) hb4) 1 (by decide) rfl f7 (v := .int (al (24 + i) 1)) rfl dX0_trim_1 ?_
  refine lv_aload_n hx hb dX0_trim_4 rfl (lv_at hl 0 rfl) ?_
  refine z_get (C := RX0) (T := TX0) (N := 3) (ci := 0) S hE hW hi0 rfl (Nat.lt_of_lt_of_le (kC_b hb4) hn) (cC_b (i := i) hb4) 2 (by decide) rfl f13 (v := .int (al (24 + i) 2)) rfl dX0_trim_5 ?_
  refine lv_isub hx hb dX0_trim_8 ?_
  exact ze_i S hW hr hlk () rfl rfl (Nat.le_of_ble_eq_true rfl) (Nat.le_of_ble_eq_true rfl) dX0_trim_9
set_option maxHeartbeats 4000000 in
set_option maxRecDepth 100000 in
theorem cX0_depth_ok (l : Launch) (D : va_G) (n : Nat) (ad cy sa : Nat → Nat) (sz : Nat) (hn : 28 ≤ n) (al : Nat → Nat → Int32) (ex : Nat → va_E) (i : Nat) (hb4 : i < 4) : Met l yX0_depth wsX0_depth ({ frames := 2, cells := 0, slots := 0, locals := 81 }) (PW D n ad cy sa sz (cC cy ad al ex) [.ref (ad (24 + i))]) (QDi D n ad sz (dep (al (24 + i) 1) (al (24 + i) 2)) (cC cy ad al ex)) 0 0 (Acc n ad sz) := by
  refine zs_met (cc := cX0_depth) (maxL := 1) (ret := (some .int)) (own := RX0) (by decide) rfl rfl (Nat.le_of_ble_eq_true rfl) ?_
  intro p e s m args below meth c ls S hE hW hr hlk hsz hav hl
  subst hsz
  have hx := S.1
  have hb := S.2.1
  have hown := S.2.2.2.1
  have hts := S.2.2.2.2
  have hl : lv_has ls 1 [(0, .ref (ad (24 + i)))] := hl
  have f7 := hts (.fieldLink RX0 7 "PumiceSledge$Boat" "fore" "I") (by decide +kernel)
  have hi0 : ∀ w ∈ wsX00, w ∈ wsX0_depth := by decide +kernel
  have f13 := hts (.fieldLink RX0 13 "PumiceSledge$Boat" "aft" "I") (by decide +kernel)
  have in_X3 := hts (.initialized RX3) (by decide +kernel)
  have stt_X3_depthOf := hts (.static yX3_depthOf) (by decide +kernel)
  refine lv_aload_n hx hb dX0_depth_0 rfl (lv_at hl 0 rfl) ?_
  refine z_get (C := RX0) (T := TX0) (N := 3) (ci := 0) S hE hW hi0 rfl (Nat.lt_of_lt_of_le (kC_b hb4) hn) (cC_b (i := i) hb4) 1 (by decide) rfl f7 (v := .int (al (24 + i) 1)) rfl dX0_depth_1 ?_
  refine lv_aload_n hx hb dX0_depth_4 rfl (lv_at hl 0 rfl) ?_
  refine z_get (C := RX0) (T := TX0) (N := 3) (ci := 0) S hE hW hi0 rfl (Nat.lt_of_lt_of_le (kC_b hb4) hn) (cC_b (i := i) hb4) 2 (by decide) rfl f13 (v := .int (al (24 + i) 2)) rfl dX0_depth_5 ?_
  refine z_pSN (As := [.int (al (24 + i) 1), .int (al (24 + i) 2)]) (rest := []) S hE hW (cX3_depthOf_ok l (al (24 + i) 1) (al (24 + i) 2)) (⟨va_cnB 2 hts gX0_depth_X3_depthOf_n16 rfl rfl rfl (hE.1.2.1.at 16 rfl) in_X3 (by decide +kernel) ⟨Nat.le_of_ble_eq_true rfl, Nat.le_of_ble_eq_true rfl⟩, stt_X3_depthOf, trivial⟩) rfl hl.1 rfl (Nat.le_of_ble_eq_true rfl) dX0_depth_8 ⟨Nat.le_of_ble_eq_true rfl, Nat.le_of_ble_eq_true rfl⟩ (fun H locs hW => ?_)
  exact ze_i S hW hr hlk () rfl rfl (Nat.le_of_ble_eq_true rfl) (Nat.le_of_ble_eq_true rfl) dX0_depth_11
set_option maxHeartbeats 4000000 in
set_option maxRecDepth 100000 in
theorem cX0_canSail_ok (l : Launch) (D : va_G) (n : Nat) (ad cy sa : Nat → Nat) (sz : Nat) (hn : 28 ≤ n) (al : Nat → Nat → Int32) (ex : Nat → va_E) (i : Nat) (hb4 : i < 4) : Met l yX0_canSail wsX0_canSail ({ frames := 3, cells := 0, slots := 0, locals := 101 }) (PW D n ad cy sa sz (cC cy ad al ex) [.ref (ad (24 + i))]) (QDi D n ad sz (if (¬ 20 < dep (al (24 + i) 1) (al (24 + i) 2) ∧ zIn (al (24 + i) 1 - al (24 + i) 2) (-100) 100) then 1 else 0) (cC cy ad al ex)) 0 0 (Acc n ad sz) := by
  refine zs_met (cc := cX0_canSail) (maxL := 1) (ret := (some .boolean)) (own := RX0) (by decide) rfl rfl (Nat.le_of_ble_eq_true rfl) ?_
  intro p e s m args below meth c ls S hE hW hr hlk hsz hav hl
  subst hsz
  have hx := S.1
  have hb := S.2.1
  have hown := S.2.2.2.1
  have hts := S.2.2.2.2
  have hl : lv_has ls 1 [(0, .ref (ad (24 + i)))] := hl
  have in_X3 := hts (.initialized RX3) (by decide +kernel)
  have stt_X3_isWithin := hts (.static yX3_isWithin) (by decide +kernel)
  refine lv_aload_n hx hb dX0_canSail_0 rfl (lv_at hl 0 rfl) ?_
  refine z_cVi (As := []) (rest := []) (k := (24 + i)) S hE hW (cX0_depth_ok l D n ad cy sa s.heap.size hn al ex i hb4) (cwV 0 hts gX0_canSail_X0_depth rfl rfl rfl (by decide +kernel) ⟨Nat.le_of_ble_eq_true rfl, Nat.le_of_ble_eq_true rfl⟩) (Nat.lt_of_lt_of_le (kC_b hb4) hn) (cC_b (i := i) hb4) rfl rfl rfl hl.1 rfl (Nat.le_of_ble_eq_true rfl) dX0_canSail_1 ⟨Nat.le_of_ble_eq_true rfl, Nat.le_of_ble_eq_true rfl⟩ (fun r _ H locs hp hW => ?_)
  subst hp
  refine lv_bipush (v := 20) hx hb dX0_canSail_4 (by decide) ?_
  refine lv_icmp_gt (tgt := 27) hx hb dX0_canSail_6 (by decide) (fun c6 => ?_) (fun c6 => ?_)
  · refine lv_iconst (v := 0) hx hb dX0_canSail_27 (by decide) ?_
    exact ze_z S hW hr hlk () rfl (by decide) ((if_neg (fun h => h.1 c6)).symm) (Nat.le_of_ble_eq_true rfl) (Nat.le_of_ble_eq_true rfl) dX0_canSail_28
  · refine lv_aload_n hx hb dX0_canSail_9 rfl (lv_at hl 0 rfl) ?_
    refine z_cVi (As := []) (rest := []) (k := (24 + i)) S hE hW (cX0_trim_ok l D n ad cy sa H.size hn al ex i hb4) (cwV 0 hts gX0_canSail_X0_trim rfl rfl rfl (by decide +kernel) ⟨Nat.le_of_ble_eq_true rfl, Nat.le_of_ble_eq_true rfl⟩) (Nat.lt_of_lt_of_le (kC_b hb4) hn) (cC_b (i := i) hb4) rfl rfl rfl hl.1 rfl (Nat.le_of_ble_eq_true rfl) dX0_canSail_10 ⟨Nat.le_of_ble_eq_true rfl, Nat.le_of_ble_eq_true rfl⟩ (fun r _ H locs hp hW => ?_)
    subst hp
    refine lv_bipush (v := (-100)) hx hb dX0_canSail_13 (by decide) ?_
    refine lv_bipush (v := 100) hx hb dX0_canSail_15 (by decide) ?_
    refine z_pSN (As := [.int (al (24 + i) 1 - al (24 + i) 2), .int (-100), .int 100]) (rest := []) S hE hW (cX3_isWithin_ok l (al (24 + i) 1 - al (24 + i) 2) (-100) 100) (⟨va_cnB 3 hts gX0_canSail_X3_isWithin_n29 rfl rfl rfl (hE.1.2.1.at 17 rfl) in_X3 (by decide +kernel) ⟨Nat.le_of_ble_eq_true rfl, Nat.le_of_ble_eq_true rfl⟩, stt_X3_isWithin, trivial⟩) rfl hl.1 rfl (Nat.le_of_ble_eq_true rfl) dX0_canSail_17 ⟨Nat.le_of_ble_eq_true rfl, Nat.le_of_ble_eq_true rfl⟩ (fun H locs hW => ?_)
    refine lv_if_eq (tgt := 27) hx hb dX0_canSail_20 (by decide) (fun c20 => ?_) (fun c20 => ?_)
    · have c20 := zb_f c20
      refine lv_iconst (v := 0) hx hb dX0_canSail_27 (by decide) ?_
      exact ze_z S hW hr hlk () rfl (by decide) ((if_neg (fun h => c20 h.2)).symm) (Nat.le_of_ble_eq_true rfl) (Nat.le_of_ble_eq_true rfl) dX0_canSail_28
    · have c20 := zb_t c20
      refine lv_iconst (v := 1) hx hb dX0_canSail_23 (by decide) ?_
      refine lv_goto (tgt := 28) hx hb dX0_canSail_24 (by decide) ?_
      exact ze_z S hW hr hlk () rfl (by decide) ((if_pos ⟨c6, c20⟩).symm) (Nat.le_of_ble_eq_true rfl) (Nat.le_of_ble_eq_true rfl) dX0_canSail_28
set_option maxHeartbeats 4000000 in
set_option maxRecDepth 100000 in
theorem cX0_room_ok (l : Launch) (D : va_G) (n : Nat) (ad cy sa : Nat → Nat) (sz : Nat) (hn : 28 ≤ n) (al : Nat → Nat → Int32) (ex : Nat → va_E) (i : Nat) (hb4 : i < 4) : Met l yX0_room wsX0_room ({ frames := 0, cells := 0, slots := 0, locals := 0 }) (PW D n ad cy sa sz (cC cy ad al ex) [.ref (ad (24 + i))]) (QDi D n ad sz ((al (24 + i) 0 - al (24 + i) 1) - al (24 + i) 2) (cC cy ad al ex)) 0 0 (Acc n ad sz) := by
  refine zs_met (cc := cX0_room) (maxL := 1) (ret := (some .int)) (own := RX0) (by decide) rfl rfl (Nat.le_of_ble_eq_true rfl) ?_
  intro p e s m args below meth c ls S hE hW hr hlk hsz hav hl
  subst hsz
  have hx := S.1
  have hb := S.2.1
  have hown := S.2.2.2.1
  have hts := S.2.2.2.2
  have hl : lv_has ls 1 [(0, .ref (ad (24 + i)))] := hl
  have f33 := hts (.fieldLink RX0 33 "PumiceSledge$Boat" "mostLoad" "I") (by decide +kernel)
  have hi0 : ∀ w ∈ wsX00, w ∈ wsX0_room := by decide +kernel
  have f7 := hts (.fieldLink RX0 7 "PumiceSledge$Boat" "fore" "I") (by decide +kernel)
  have f13 := hts (.fieldLink RX0 13 "PumiceSledge$Boat" "aft" "I") (by decide +kernel)
  refine lv_aload_n hx hb dX0_room_0 rfl (lv_at hl 0 rfl) ?_
  refine z_get (C := RX0) (T := TX0) (N := 3) (ci := 0) S hE hW hi0 rfl (Nat.lt_of_lt_of_le (kC_b hb4) hn) (cC_b (i := i) hb4) 0 (by decide) rfl f33 (v := .int (al (24 + i) 0)) rfl dX0_room_1 ?_
  refine lv_aload_n hx hb dX0_room_4 rfl (lv_at hl 0 rfl) ?_
  refine z_get (C := RX0) (T := TX0) (N := 3) (ci := 0) S hE hW hi0 rfl (Nat.lt_of_lt_of_le (kC_b hb4) hn) (cC_b (i := i) hb4) 1 (by decide) rfl f7 (v := .int (al (24 + i) 1)) rfl dX0_room_5 ?_
  refine lv_isub hx hb dX0_room_8 ?_
  refine lv_aload_n hx hb dX0_room_9 rfl (lv_at hl 0 rfl) ?_
  refine z_get (C := RX0) (T := TX0) (N := 3) (ci := 0) S hE hW hi0 rfl (Nat.lt_of_lt_of_le (kC_b hb4) hn) (cC_b (i := i) hb4) 2 (by decide) rfl f13 (v := .int (al (24 + i) 2)) rfl dX0_room_10 ?_
  refine lv_isub hx hb dX0_room_13 ?_
  exact ze_i S hW hr hlk () rfl rfl (Nat.le_of_ble_eq_true rfl) (Nat.le_of_ble_eq_true rfl) dX0_room_14
set_option maxHeartbeats 4000000 in
set_option maxRecDepth 100000 in
theorem cX0_worth_ok (l : Launch) (D : va_G) (n : Nat) (ad cy sa : Nat → Nat) (sz : Nat) (hn : 28 ≤ n) (al : Nat → Nat → Int32) (ex : Nat → va_E) (i : Nat) (hb4 : i < 4) : Met l yX0_worth wsX0_worth ({ frames := 0, cells := 0, slots := 0, locals := 0 }) (PW D n ad cy sa sz (cC cy ad al ex) [.ref (ad (24 + i))]) (QDi D n ad sz (((al (24 + i) 1 + al (24 + i) 2) / 10) * 3) (cC cy ad al ex)) 0 0 (Acc n ad sz) := by
  refine zs_met (cc := cX0_worth) (maxL := 1) (ret := (some .int)) (own := RX0) (by decide) rfl rfl (Nat.le_of_ble_eq_true rfl) ?_
  intro p e s m args below meth c ls S hE hW hr hlk hsz hav hl
  subst hsz
  have hx := S.1
  have hb := S.2.1
  have hown := S.2.2.2.1
  have hts := S.2.2.2.2
  have hl : lv_has ls 1 [(0, .ref (ad (24 + i)))] := hl
  have f7 := hts (.fieldLink RX0 7 "PumiceSledge$Boat" "fore" "I") (by decide +kernel)
  have hi0 : ∀ w ∈ wsX00, w ∈ wsX0_worth := by decide +kernel
  have f13 := hts (.fieldLink RX0 13 "PumiceSledge$Boat" "aft" "I") (by decide +kernel)
  refine lv_aload_n hx hb dX0_worth_0 rfl (lv_at hl 0 rfl) ?_
  refine z_get (C := RX0) (T := TX0) (N := 3) (ci := 0) S hE hW hi0 rfl (Nat.lt_of_lt_of_le (kC_b hb4) hn) (cC_b (i := i) hb4) 1 (by decide) rfl f7 (v := .int (al (24 + i) 1)) rfl dX0_worth_1 ?_
  refine lv_aload_n hx hb dX0_worth_4 rfl (lv_at hl 0 rfl) ?_
  refine z_get (C := RX0) (T := TX0) (N := 3) (ci := 0) S hE hW hi0 rfl (Nat.lt_of_lt_of_le (kC_b hb4) hn) (cC_b (i := i) hb4) 2 (by decide) rfl f13 (v := .int (al (24 + i) 2)) rfl dX0_worth_5 ?_
  refine lv_iadd hx hb dX0_worth_8 ?_
  refine lv_bipush (v := 10) hx hb dX0_worth_9 (by decide) ?_
  refine lv_idiv hx hb dX0_worth_11 (by decide) ?_
  refine lv_iconst (v := 3) hx hb dX0_worth_12 (by decide) ?_
  refine lv_imul hx hb dX0_worth_13 ?_
  exact ze_i S hW hr hlk () rfl rfl (Nat.le_of_ble_eq_true rfl) (Nat.le_of_ble_eq_true rfl) dX0_worth_14
set_option maxHeartbeats 4000000 in
set_option maxRecDepth 100000 in
theorem cX1_allSacks_ok (l : Launch) (D : va_G) (n : Nat) (ad cy sa : Nat → Nat) (sz : Nat) (hn : 28 ≤ n) (al : Nat → Nat → Int32) (ex : Nat → va_E) (sh : Nat) (hsh : sh < 2) : Met l yX1_allSacks wsX1_allSacks ({ frames := 0, cells := 0, slots := 0, locals := 0 }) (PW D n ad cy sa sz (cC cy ad al ex) [.ref (ad (6 + sh))]) (QDi D n ad sz (((al (8 + sh) 0 + al (8 + sh) 1) + al (8 + sh) 2)) (cC cy ad al ex)) 0 0 (Acc n ad sz) := by
  refine zs_met (cc := cX1_allSacks) (maxL := 1) (ret := (some .int)) (own := RX1) (by decide) rfl rfl (Nat.le_of_ble_eq_true rfl) ?_
  intro p e s m args below meth c ls S hE hW hr hlk hsz hav hl
  subst hsz
  have hx := S.1
  have hb := S.2.1
  have hown := S.2.2.2.1
  have hts := S.2.2.2.2
  have hl : lv_has ls 1 [(0, .ref (ad (6 + sh)))] := hl
  have f9 := hts (.fieldLink RX1 9 "PumiceSledge$Shore" "sacks" "[I") (by decide +kernel)
  have hi1 : ∀ w ∈ wsX10, w ∈ wsX1_allSacks := by decide +kernel
  refine lv_aload_n hx hb dX1_allSacks_0 rfl (lv_at hl 0 rfl) ?_
  refine z_get (C := RX1) (T := TX1) (N := 2) (ci := 1) S hE hW hi1 rfl (Nat.lt_of_lt_of_le (kC_h hsh) hn) (cC_h (i := sh) hsh) 0 (by decide) rfl f9 (v := .ref (ad (8 + sh))) rfl dX1_allSacks_1 ?_
  refine lv_iconst (v := 0) hx hb dX1_allSacks_4 (by decide) ?_
  refine z_ald S hE hW (Nat.lt_of_lt_of_le (kC_hs hsh) hn) (cC_hs (i := sh) hsh) 0 rfl (by decide) (by decide) (v := al (8 + sh) 0) rfl dX1_allSacks_5 ?_
  refine lv_aload_n hx hb dX1_allSacks_6 rfl (lv_at hl 0 rfl) ?_
  refine z_get (C := RX1) (T := TX1) (N := 2) (ci := 1) S hE hW hi1 rfl (Nat.lt_of_lt_of_le (kC_h hsh) hn) (cC_h (i := sh) hsh) 0 (by decide) rfl f9 (v := .ref (ad (8 + sh))) rfl dX1_allSacks_7 ?_
  refine lv_iconst (v := 1) hx hb dX1_allSacks_10 (by decide) ?_
  refine z_ald S hE hW (Nat.lt_of_lt_of_le (kC_hs hsh) hn) (cC_hs (i := sh) hsh) 1 rfl (by decide) (by decide) (v := al (8 + sh) 1) rfl dX1_allSacks_11 ?_
  refine lv_iadd hx hb dX1_allSacks_12 ?_
  refine lv_aload_n hx hb dX1_allSacks_13 rfl (lv_at hl 0 rfl) ?_
  refine z_get (C := RX1) (T := TX1) (N := 2) (ci := 1) S hE hW hi1 rfl (Nat.lt_of_lt_of_le (kC_h hsh) hn) (cC_h (i := sh) hsh) 0 (by decide) rfl f9 (v := .ref (ad (8 + sh))) rfl dX1_allSacks_14 ?_
  refine lv_iconst (v := 2) hx hb dX1_allSacks_17 (by decide) ?_
  refine z_ald S hE hW (Nat.lt_of_lt_of_le (kC_hs hsh) hn) (cC_hs (i := sh) hsh) 2 rfl (by decide) (by decide) (v := al (8 + sh) 2) rfl dX1_allSacks_18 ?_
  refine lv_iadd hx hb dX1_allSacks_19 ?_
  exact ze_i S hW hr hlk () rfl rfl (Nat.le_of_ble_eq_true rfl) (Nat.le_of_ble_eq_true rfl) dX1_allSacks_20
set_option maxHeartbeats 4000000 in
set_option maxRecDepth 100000 in
theorem cX2_isFull_ok (l : Launch) (D : va_G) (n : Nat) (ad cy sa : Nat → Nat) (sz : Nat) (hn : 28 ≤ n) (al : Nat → Nat → Int32) (ex : Nat → va_E) (i : Nat) (hi : i < 7) : Met l yX2_isFull wsX2_isFull ({ frames := 0, cells := 0, slots := 0, locals := 0 }) (PW D n ad cy sa sz (cC cy ad al ex) [.ref (ad (10 + i))]) (QDi D n ad sz (if (al (10 + i) 0 ≤ al (10 + i) 2 ∨ ¬ al (10 + i) 2 < 8) then 1 else 0) (cC cy ad al ex)) 0 0 (Acc n ad sz) := by
  refine zs_met (cc := cX2_isFull) (maxL := 1) (ret := (some .boolean)) (own := RX2) (by decide) rfl rfl (Nat.le_of_ble_eq_true rfl) ?_
  intro p e s m args below meth c ls S hE hW hr hlk hsz hav hl
  subst hsz
  have hx := S.1
  have hb := S.2.1
  have hown := S.2.2.2.1
  have hts := S.2.2.2.2
  have hl : lv_has ls 1 [(0, .ref (ad (10 + i)))] := hl
  have f22 := hts (.fieldLink RX2 22 "PumiceSledge$Sledge" "aboard" "I") (by decide +kernel)
  have hi2 : ∀ w ∈ wsX20, w ∈ wsX2_isFull := by decide +kernel
  have f25 := hts (.fieldLink RX2 25 "PumiceSledge$Sledge" "holds" "I") (by decide +kernel)
  refine lv_aload_n hx hb dX2_isFull_0 rfl (lv_at hl 0 rfl) ?_
  refine z_get (C := RX2) (T := TX2) (N := 5) (ci := 2) S hE hW hi2 rfl (Nat.lt_of_lt_of_le (kC_s hi) hn) (cC_s (i := i) hi) 2 (by decide) rfl f22 (v := .int (al (10 + i) 2)) rfl dX2_isFull_1 ?_
  refine lv_aload_n hx hb dX2_isFull_4 rfl (lv_at hl 0 rfl) ?_
  refine z_get (C := RX2) (T := TX2) (N := 5) (ci := 2) S hE hW hi2 rfl (Nat.lt_of_lt_of_le (kC_s hi) hn) (cC_s (i := i) hi) 0 (by decide) rfl f25 (v := .int (al (10 + i) 0)) rfl dX2_isFull_5 ?_
  refine lv_icmp_ge (tgt := 20) hx hb dX2_isFull_8 (by decide) (fun c8 => ?_) (fun c8 => ?_)
  · refine lv_iconst (v := 1) hx hb dX2_isFull_20 (by decide) ?_
    refine lv_goto (tgt := 25) hx hb dX2_isFull_21 (by decide) ?_
    exact ze_z S hW hr hlk () rfl (by decide) ((if_pos (Or.inl c8)).symm) (Nat.le_of_ble_eq_true rfl) (Nat.le_of_ble_eq_true rfl) dX2_isFull_25
  · refine lv_aload_n hx hb dX2_isFull_11 rfl (lv_at hl 0 rfl) ?_
    refine z_get (C := RX2) (T := TX2) (N := 5) (ci := 2) S hE hW hi2 rfl (Nat.lt_of_lt_of_le (kC_s hi) hn) (cC_s (i := i) hi) 2 (by decide) rfl f22 (v := .int (al (10 + i) 2)) rfl dX2_isFull_12 ?_
    refine lv_bipush (v := 8) hx hb dX2_isFull_15 (by decide) ?_
    refine lv_icmp_lt (tgt := 24) hx hb dX2_isFull_17 (by decide) (fun c17 => ?_) (fun c17 => ?_)
    · refine lv_iconst (v := 0) hx hb dX2_isFull_24 (by decide) ?_
      exact ze_z S hW hr hlk () rfl (by decide) ((if_neg (fun h => h.elim c8 (fun q => q c17))).symm) (Nat.le_of_ble_eq_true rfl) (Nat.le_of_ble_eq_true rfl) dX2_isFull_25
    · refine lv_iconst (v := 1) hx hb dX2_isFull_20 (by decide) ?_
      refine lv_goto (tgt := 25) hx hb dX2_isFull_21 (by decide) ?_
      exact ze_z S hW hr hlk () rfl (by decide) ((if_pos (Or.inr c17)).symm) (Nat.le_of_ble_eq_true rfl) (Nat.le_of_ble_eq_true rfl) dX2_isFull_25
set_option maxHeartbeats 4000000 in
set_option maxRecDepth 100000 in
theorem cX2_load_ok (l : Launch) (D : va_G) (n : Nat) (ad cy sa : Nat → Nat) (sz : Nat) (hn : 28 ≤ n) (al : Nat → Nat → Int32) (ex : Nat → va_E) (i : Nat) (hi : i < 7) (a : Nat) (ha : al (10 + i) 2 = nI a) (ha8 : a < 8) (hnf : ¬ (al (10 + i) 0 ≤ al (10 + i) 2 ∨ ¬ al (10 + i) 2 < 8)) (x : Int32) : Met l yX2_load wsX2_load ({ frames := 1, cells := 0, slots := 0, locals := 20 }) (PW D n ad cy sa sz (cC cy ad al ex) [.ref (ad (10 + i)), .int x]) (QDv D n ad sz (cC cy ad (zup (zup al (17 + i) a x) (10 + i) 2 (al (10 + i) 2 + 1)) ex)) 0 0 (Acc n ad sz) := by
  refine zs_met (cc := cX2_load) (maxL := 2) (ret := none) (own := RX2) (by decide) rfl rfl (Nat.le_of_ble_eq_true rfl) ?_
  intro p e s m args below meth c ls S hE hW hr hlk hsz hav hl
  subst hsz
  have hx := S.1
  have hb := S.2.1
  have hown := S.2.2.2.1
  have hts := S.2.2.2.2
  have hl : lv_has ls 2 [(0, .ref (ad (10 + i))), (1, .int x)] := hl
  have f9 := hts (.fieldLink RX2 9 "PumiceSledge$Sledge" "weights" "[I") (by decide +kernel)
  have hi2 : ∀ w ∈ wsX20, w ∈ wsX2_load := by decide +kernel
  have f22 := hts (.fieldLink RX2 22 "PumiceSledge$Sledge" "aboard" "I") (by decide +kernel)
  refine lv_aload_n hx hb dX2_load_0 rfl (lv_at hl 0 rfl) ?_
  refine z_cVi (As := []) (rest := []) (k := (10 + i)) S hE hW (cX2_isFull_ok l D n ad cy sa s.heap.size hn al ex i hi ) (cwV 0 hts gX2_load_X2_isFull rfl rfl rfl (by decide +kernel) ⟨Nat.le_of_ble_eq_true rfl, Nat.le_of_ble_eq_true rfl⟩) (Nat.lt_of_lt_of_le (kC_s hi) hn) (cC_s (i := i) hi) rfl rfl rfl hl.1 rfl (Nat.le_of_ble_eq_true rfl) dX2_load_1 ⟨Nat.le_of_ble_eq_true rfl, Nat.le_of_ble_eq_true rfl⟩ (fun r _ H locs hp hW => ?_)
  subst hp
  refine lv_if_ne (tgt := 27) hx hb dX2_load_4 (by decide) (fun h => absurd (zb_pf hnf) h) (fun _ => ?_)
  refine lv_aload_n hx hb dX2_load_7 rfl (lv_at hl 0 rfl) ?_
  refine z_get (C := RX2) (T := TX2) (N := 5) (ci := 2) S hE hW hi2 rfl (Nat.lt_of_lt_of_le (kC_s hi) hn) (cC_s (i := i) hi) 1 (by decide) rfl f9 (v := .ref (ad (17 + i))) rfl dX2_load_8 ?_
  refine lv_aload_n hx hb dX2_load_11 rfl (lv_at hl 0 rfl) ?_
  refine z_get (C := RX2) (T := TX2) (N := 5) (ci := 2) S hE hW hi2 rfl (Nat.lt_of_lt_of_le (kC_s hi) hn) (cC_s (i := i) hi) 2 (by decide) rfl f22 (v := .int (al (10 + i) 2)) rfl dX2_load_12 ?_
  refine lv_iload_n hx hb dX2_load_15 rfl (lv_at hl 1 rfl) ?_
  refine z_ast (ce' := cC cy ad (zup al (17 + i) a x) ex) S hE hW (Nat.lt_of_lt_of_le (kC_w hi) hn) (cC_w (i := i) hi) a ha ha8 (by decide) (pC_w (i := i) hi) (fun j h => cC_o h) dX2_load_16 (fun H locs hW => ?_)
  refine lv_aload_n hx hb dX2_load_17 rfl (lv_at hl 0 rfl) ?_
  refine lv_dup hx hb dX2_load_18 rfl ?_
  refine z_get (C := RX2) (T := TX2) (N := 5) (ci := 2) S hE hW hi2 rfl (Nat.lt_of_lt_of_le (kC_s hi) hn) (cC_s (i := i) hi) 2 (by decide) rfl f22 (v := .int (al (10 + i) 2)) (congrArg (fun z => some (Value.int z)) (congrFun (zup_o (by omega)) 2)) dX2_load_19 ?_
  refine lv_iconst (v := 1) hx hb dX2_load_22 (by decide) ?_
  refine lv_iadd hx hb dX2_load_23 ?_
  refine z_put (ce' := cC cy ad (zup (zup al (17 + i) a x) (10 + i) 2 (al (10 + i) 2 + 1)) ex) (C := RX2) (T := TX2) (N := 5) (ci := 2) S hE hW hi2 tyX2 tyX2_ok nmX2 rfl (Nat.lt_of_lt_of_le (kC_s hi) hn) (cC_s (i := i) hi) 2 (by decide) rfl f22 rfl rfl (Nat.le_of_ble_eq_true rfl) (pC_s (i := i) hi (by decide)) (fun j h => cC_o h) dX2_load_24 (fun H locs hW => ?_)
  exact ze_v S hW hr hlk () rfl trivial (Nat.le_of_ble_eq_true rfl) (Nat.le_of_ble_eq_true rfl) dX2_load_27
set_option maxHeartbeats 4000000 in
set_option maxRecDepth 100000 in
theorem cX2_lastKind_ok (l : Launch) (D : va_G) (n : Nat) (ad cy sa : Nat → Nat) (sz : Nat) (hn : 28 ≤ n) (al : Nat → Nat → Int32) (ex : Nat → va_E) (i : Nat) (hi : i < 7) (a : Nat) (ha : al (10 + i) 2 = nI a) (ha8 : a ≤ 8) : Met l yX2_lastKind wsX2_lastKind ({ frames := 1, cells := 0, slots := 0, locals := 20 }) (PW D n ad cy sa sz (cC cy ad al ex) [.ref (ad (10 + i))]) (QDi D n ad sz (if al (10 + i) 2 ≤ 0 then (-1) else knd (al (17 + i) (a - 1))) (cC cy ad al ex)) 0 0 (Acc n ad sz) := by
  refine zs_met (cc := cX2_lastKind) (maxL := 1) (ret := (some .int)) (own := RX2) (by decide) rfl rfl (Nat.le_of_ble_eq_true rfl) ?_
  intro p e s m args below meth c ls S hE hW hr hlk hsz hav hl
  subst hsz
  have hx := S.1
  have hb := S.2.1
  have hown := S.2.2.2.1
  have hts := S.2.2.2.2
  have hl : lv_has ls 1 [(0, .ref (ad (10 + i)))] := hl
  have f22 := hts (.fieldLink RX2 22 "PumiceSledge$Sledge" "aboard" "I") (by decide +kernel)
  have hi2 : ∀ w ∈ wsX20, w ∈ wsX2_lastKind := by decide +kernel
  have f9 := hts (.fieldLink RX2 9 "PumiceSledge$Sledge" "weights" "[I") (by decide +kernel)
  have in_X3 := hts (.initialized RX3) (by decide +kernel)
  have stt_X3_kindOf := hts (.static yX3_kindOf) (by decide +kernel)
  refine lv_aload_n hx hb dX2_lastKind_0 rfl (lv_at hl 0 rfl) ?_
  refine z_get (C := RX2) (T := TX2) (N := 5) (ci := 2) S hE hW hi2 rfl (Nat.lt_of_lt_of_le (kC_s hi) hn) (cC_s (i := i) hi) 2 (by decide) rfl f22 (v := .int (al (10 + i) 2)) rfl dX2_lastKind_1 ?_
  refine lv_if_le (tgt := 24) hx hb dX2_lastKind_4 (by decide) (fun c4 => ?_) (fun c4 => ?_)
  · refine lv_iconst (v := (-1)) hx hb dX2_lastKind_24 (by decide) ?_
    exact ze_i S hW hr hlk () rfl (by rw [if_pos c4]) (Nat.le_of_ble_eq_true rfl) (Nat.le_of_ble_eq_true rfl) dX2_lastKind_25
  · have ha1 : al (10 + i) 2 - 1 = nI (a - 1) ∧ a - 1 < 8 := z_pred ha ha8 c4
    refine lv_aload_n hx hb dX2_lastKind_7 rfl (lv_at hl 0 rfl) ?_
    refine z_get (C := RX2) (T := TX2) (N := 5) (ci := 2) S hE hW hi2 rfl (Nat.lt_of_lt_of_le (kC_s hi) hn) (cC_s (i := i) hi) 1 (by decide) rfl f9 (v := .ref (ad (17 + i))) rfl dX2_lastKind_8 ?_
    refine lv_aload_n hx hb dX2_lastKind_11 rfl (lv_at hl 0 rfl) ?_
    refine z_get (C := RX2) (T := TX2) (N := 5) (ci := 2) S hE hW hi2 rfl (Nat.lt_of_lt_of_le (kC_s hi) hn) (cC_s (i := i) hi) 2 (by decide) rfl f22 (v := .int (al (10 + i) 2)) rfl dX2_lastKind_12 ?_
    refine lv_iconst (v := 1) hx hb dX2_lastKind_15 (by decide) ?_
    refine lv_isub hx hb dX2_lastKind_16 ?_
    refine z_ald S hE hW (Nat.lt_of_lt_of_le (kC_w hi) hn) (cC_w (i := i) hi) (a - 1) ha1.1 ha1.2 (by decide) (v := al (17 + i) (a - 1)) rfl dX2_lastKind_17 ?_
    refine z_pSN (As := [.int (al (17 + i) (a - 1))]) (rest := []) S hE hW (cX3_kindOf_ok l (al (17 + i) (a - 1))) (⟨va_cnB 1 hts gX2_lastKind_X3_kindOf_n32 rfl rfl rfl (hE.1.2.1.at 15 rfl) in_X3 (by decide +kernel) ⟨Nat.le_of_ble_eq_true rfl, Nat.le_of_ble_eq_true rfl⟩, stt_X3_kindOf, trivial⟩) rfl hl.1 rfl (Nat.le_of_ble_eq_true rfl) dX2_lastKind_18 ⟨Nat.le_of_ble_eq_true rfl, Nat.le_of_ble_eq_true rfl⟩ (fun H locs hW => ?_)
    refine lv_goto (tgt := 25) hx hb dX2_lastKind_21 (by decide) ?_
    exact ze_i S hW hr hlk () rfl (by rw [if_neg c4]) (Nat.le_of_ble_eq_true rfl) (Nat.le_of_ble_eq_true rfl) dX2_lastKind_25
set_option maxHeartbeats 4000000 in
set_option maxRecDepth 100000 in
theorem cX2_comeUp_ok (l : Launch) (D : va_G) (n : Nat) (ad cy sa : Nat → Nat) (sz : Nat) (hn : 28 ≤ n) (al : Nat → Nat → Int32) (ex : Nat → va_E) (i : Nat) (hi : i < 7) : Met l yX2_comeUp wsX2_comeUp ({ frames := 1, cells := 0, slots := 0, locals := 60 }) (PW D n ad cy sa sz (cC cy ad al ex) [.ref (ad (10 + i))]) (QDv D n ad sz (cC cy ad (climbS al i) ex)) 0 0 (Acc n ad sz) := by
  refine zs_met (cc := cX2_comeUp) (maxL := 1) (ret := none) (own := RX2) (by decide) rfl rfl (Nat.le_of_ble_eq_true rfl) ?_
  intro p e s m args below meth c ls S hE hW hr hlk hsz hav hl
  subst hsz
  have hx := S.1
  have hb := S.2.1
  have hown := S.2.2.2.1
  have hts := S.2.2.2.2
  have hl : lv_has ls 1 [(0, .ref (ad (10 + i)))] := hl
  have f15 := hts (.fieldLink RX2 15 "PumiceSledge$Sledge" "height" "I") (by decide +kernel)
  have hi2 : ∀ w ∈ wsX20, w ∈ wsX2_comeUp := by decide +kernel
  have l67 := hts (.methodLink RX2 67 Lib.Math.min.name) (by decide +kernel)
  have ls_min := hts (.static Lib.Math.min.name) (by decide +kernel)
  have li_Math := hts (.initialized "java/lang/Math") (by decide +kernel)
  have lc_min := hts (.code Lib.Math.min.name Lib.Math.min.code 2 (some .int)) (by decide +kernel)
  have f19 := hts (.fieldLink RX2 19 "PumiceSledge$Sledge" "course" "I") (by decide +kernel)
  refine lv_aload_n hx hb dX2_comeUp_0 rfl (lv_at hl 0 rfl) ?_
  refine lv_bipush (v := 20) hx hb dX2_comeUp_1 (by decide) ?_
  refine lv_aload_n hx hb dX2_comeUp_3 rfl (lv_at hl 0 rfl) ?_
  refine z_get (C := RX2) (T := TX2) (N := 5) (ci := 2) S hE hW hi2 rfl (Nat.lt_of_lt_of_le (kC_s hi) hn) (cC_s (i := i) hi) 3 (by decide) rfl f15 (v := .int (al (10 + i) 3)) rfl dX2_comeUp_4 ?_
  refine lv_iconst (v := 5) hx hb dX2_comeUp_7 (by decide) ?_
  refine lv_iadd hx hb dX2_comeUp_8 ?_
  refine z_mmin S hl.1 l67 ls_min li_Math lc_min ⟨Nat.le_of_ble_eq_true rfl, Nat.le_of_ble_eq_true rfl, Nat.le_of_ble_eq_true rfl, Nat.le_of_ble_eq_true rfl⟩ dX2_comeUp_9 (v := zmn 20 (al (10 + i) 3 + 5)) rfl ?_
  refine z_put (ce' := cC cy ad (zup al (10 + i) 3 (zmn 20 (al (10 + i) 3 + 5))) ex) (C := RX2) (T := TX2) (N := 5) (ci := 2) S hE hW hi2 tyX2 tyX2_ok nmX2 rfl (Nat.lt_of_lt_of_le (kC_s hi) hn) (cC_s (i := i) hi) 3 (by decide) rfl f15 rfl rfl (Nat.le_of_ble_eq_true rfl) (pC_s (i := i) hi (by decide)) (fun j h => cC_o h) dX2_comeUp_12 (fun H locs hW => ?_)
  refine lv_aload_n hx hb dX2_comeUp_15 rfl (lv_at hl 0 rfl) ?_
  refine z_get (C := RX2) (T := TX2) (N := 5) (ci := 2) S hE hW hi2 rfl (Nat.lt_of_lt_of_le (kC_s hi) hn) (cC_s (i := i) hi) 3 (by decide) rfl f15 (v := .int (zmn 20 (al (10 + i) 3 + 5))) (congrArg (fun z => some (Value.int z)) ((congrFun zup_k 3).trans up_s)) dX2_comeUp_16 ?_
  refine lv_bipush (v := 20) hx hb dX2_comeUp_19 (by decide) ?_
  refine lv_icmp_ne (tgt := 29) hx hb dX2_comeUp_21 (by decide) (fun c21 => ?_) (fun c21 => ?_)
  · exact ze_v S hW hr hlk () (congrArg (fun z => cC cy ad z ex) (by unfold climbS; rw [if_neg]; first | rfl | exact c21)) trivial (Nat.le_of_ble_eq_true rfl) (Nat.le_of_ble_eq_true rfl) dX2_comeUp_29
  · refine lv_aload_n hx hb dX2_comeUp_24 rfl (lv_at hl 0 rfl) ?_
    refine lv_iconst (v := 0) hx hb dX2_comeUp_25 (by decide) ?_
    refine z_put (ce' := cC cy ad (zup (zup al (10 + i) 3 (zmn 20 (al (10 + i) 3 + 5))) (10 + i) 4 0) ex) (C := RX2) (T := TX2) (N := 5) (ci := 2) S hE hW hi2 tyX2 tyX2_ok nmX2 rfl (Nat.lt_of_lt_of_le (kC_s hi) hn) (cC_s (i := i) hi) 4 (by decide) rfl f19 rfl rfl (Nat.le_of_ble_eq_true rfl) (pC_s (i := i) hi (by decide)) (fun j h => cC_o h) dX2_comeUp_26 (fun H locs hW => ?_)
    exact ze_v S hW hr hlk () (congrArg (fun z => cC cy ad z ex) (by unfold climbS; rw [if_pos]; first | rfl | exact c21)) trivial (Nat.le_of_ble_eq_true rfl) (Nat.le_of_ble_eq_true rfl) dX2_comeUp_29
end
section
/-! sledges: loops -/
/-- a whole row is written over -/
def zset (al : Nat → Nat → Int32) (k : Nat) (f : Nat → Int32) : Nat → Nat → Int32 := fun a => if a = k then f else al a
theorem zset_k {al : Nat → Nat → Int32} {k : Nat} {f : Nat → Int32} : zset al k f k = f := if_pos rfl
theorem zset_o {al : Nat → Nat → Int32} {k a : Nat} {f : Nat → Int32} (h : a ≠ k) : zset al k f a = al a := if_neg h
section ZQ
variable {cy : Nat → ClassId} {ad : Nat → Nat} {al ta : Nat → Nat → Int32} {ex : Nat → va_E} {f : Nat → Int32}
theorem qC_o {k j : Nat} (h : j ≠ k) : cC cy ad (zset al k f) ex j = cC cy ad al ex j := by
  unfold cC
  rw [zset_o h]
theorem qC_hs {i : Nat} (h : i < 2) : cC cy ad (zset al (8 + i) f) ex (8 + i) = .inl (cy 0, 3, .inl f) := by rw [cC_hs h, zset_k]
theorem qC_w {i : Nat} (h : i < 7) : cC cy ad (zset al (17 + i) f) ex (17 + i) = .inl (cy 0, 8, .inl f) := by rw [cC_w h, zset_k]
theorem qM_o {k j : Nat} (h : j ≠ 28 + k) : cM cy ad (zset ta k f) ex j = cM cy ad ta ex j := by
  unfold cM
  by_cases h1 : 28 ≤ j ∧ j < 35
  · rw [if_pos h1, if_pos h1, zset_o (by omega)]
  · rw [if_neg h1, if_neg h1]
theorem qM_4 : cM cy ad (zset ta 4 f) ex 32 = .inl (cy 0, 72, .inl f) := by rw [cM_4, zset_k]
theorem qM_6 : cM cy ad (zset ta 6 f) ex 34 = .inl (cy 0, 6, .inl f) := by rw [cM_6, zset_k]
end ZQ
section ZD
variable {p : Program} {l : Launch} {e : Env} {R : Room} {s : State} {m : MethodId} {args : Array Value} {below : List Frame} {meth : Method} {c : Code} {H : Heap} {locs : List Loc} {cells slots : Nat} {Q : State → Prop}
variable {cc : ByteArray} {nL : Nat} {Ts : List Cond} {own : String} {pc : Nat} {ls : Array Slot} {rest : List Value} {D : va_G} {n : Nat} {ad cy sa : Nat → Nat} {ce ce' : Nat → va_E} {A : Nat → Prop}
/-- System.arraycopy of the first N ints of a row of the world into another -/
theorem z_copy {k0 k1 n0 n1 N index : Nat} {f g : Nat → Int32} {x : Int32} (S : CallFix p m c cc nL s args Ts own) (hE : ZEnv D cy sa A s) (hW : WS D n ad ce A s.heap H locs) (hz : ls.size = nL) (hk0 : k0 < n) (hk1 : k1 < n) (he0 : ce k0 = .inl (cy 0, n0, .inl f)) (he1 : ce k1 = .inl (cy 0, n1, .inl g)) (hN0 : N ≤ n0) (hN1 : N ≤ n1) (hN : N < 2 ^ 31) (hxN : x = nI N)
    (hlink : (Cond.methodLink own index arraycopyName).before args s = true) (hnat : (Cond.native arraycopyName).before args s = true) (hstat : (Cond.static arraycopyName).before args s = true) (hini : (Cond.initialized "java/lang/System").before args s = true) (hR : 1 ≤ R.frames ∧ (rest.map fun v => v.category).sum + (nativeFrameWords "java/lang/System" "arraycopy" 5 + 11) ≤ R.locals)
    (h1 : ce' k1 = .inl (cy 0, n1, .inl (va_cpy f g 0 0 N))) (h2 : ∀ j, j ≠ k1 → ce' j = ce j) (hdg : decode cc pc = .ok (.invokestatic index, 3))
    (kk : ∀ (H1 : Heap) (locs1 : List Loc), WS D n ad ce' A s.heap H1 locs1 → W p l e R s m args below meth c H1 locs1 cells slots Q (F0 m (pc + 3) ls rest)) : W p l e R s m args below meth c H locs cells slots Q (F0 m pc ls (.int x :: .int 0 :: .ref (ad k1) :: .int 0 :: .ref (ad k0) :: rest)) := by
  obtain ⟨hx, hb, hml, hown, hts⟩ := S
  subst hxN
  have hc : (nI N).toNatClampNeg = N := nI_clamp hN
  have h0 : (0 : Int32).toNatClampNeg = 0 := by decide
  refine va_copyi (D := D) hx hb (by rw [hml, hz]) hown hlink hnat hstat hini hE.1.1 hW.1 hW.2.1 hW.2.2 k0 k1 0 0 (by rw [wL_get hk0, he0]) (by rw [wL_get hk1, he1]) rfl rfl rfl (by decide) (by decide) (nI_pos hN) (by rw [hc, h0]; omega) (by rw [hc, h0]; omega) (fun i _ => rfl) hR.1 hR.2 hdg (fun H1 locs1 hP hD hS => ?_)
  rw [hc, h0, wL_set h1 h2] at hP hD
  exact kk H1 locs1 ⟨hP, hD, hS⟩
end ZD
theorem slideS_ab {al : Nat → Nat → Int32} {i sh a : Nat} {g : Int32} (hsh : sh < 2) (ha : al (10 + i) 2 = nI a) (ha8 : a ≤ 8) : ∃ b, b ≤ a ∧ slideS al i sh g (10 + i) 2 = nI b := by
  unfold slideS
  by_cases h : ¬ al (10 + i) 2 ≤ 0 ∧ ¬ g ≤ 4 + 2 * al (10 + i) 2
  · rw [if_pos h, zup_k, up_n (by decide), zup_o (by omega), zup_k, up_s]
    obtain ⟨q1, q2⟩ := z_pred ha ha8 h.1
    exact ⟨a - 1, by omega, q1⟩
  · rw [if_neg h, zup_k, up_n (by decide)]
    exact ⟨a, Nat.le_refl a, ha⟩
/-- the sledge i becomes like the sledge k -/
def becomeS (al : Nat → Nat → Int32) (i k : Nat) : Nat → Nat → Int32 := zup (zup (zup (zset (zup al (10 + i) 0 (al (10 + k) 0)) (17 + i) (va_cpy (al (17 + k)) (al (17 + i)) 0 0 8)) (10 + i) 2 (al (10 + k) 2)) (10 + i) 3 (al (10 + k) 3)) (10 + i) 4 (al (10 + k) 4)
def becomeH (al : Nat → Nat → Int32) (i k : Nat) : Nat → Nat → Int32 := zup (zset al (8 + i) (va_cpy (al (8 + k)) (al (8 + i)) 0 0 3)) (6 + i) 1 (al (6 + k) 1)
set_option maxHeartbeats 4000000 in
set_option maxRecDepth 100000 in
theorem cX2_unload_ok (l : Launch) (D : va_G) (n : Nat) (ad cy sa : Nat → Nat) (sz : Nat) (hn : 28 ≤ n) (al : Nat → Nat → Int32) (ex : Nat → va_E) (i : Nat) (hi : i < 7) (sh : Nat) (hsh : sh < 2) (a : Nat) (ha : al (10 + i) 2 = nI a) (ha8 : a ≤ 8) : Met l yX2_unload wsX2_unload ({ frames := 1, cells := 0, slots := 0, locals := 20 }) (PW D n ad cy sa sz (cC cy ad al ex) [.ref (ad (10 + i)), .ref (ad (6 + sh))]) (QDv D n ad sz (cC cy ad (unloadS al i sh) ex)) 0 0 (Acc n ad sz) := by
  refine zs_met (cc := cX2_unload) (maxL := 3) (ret := none) (own := RX2) (by decide) rfl rfl (Nat.le_of_ble_eq_true rfl) ?_
  intro p e s m args below meth c ls S hE hW hr hlk hsz hav hl
  subst hsz
  have hx := S.1
  have hb := S.2.1
  have hown := S.2.2.2.1
  have hts := S.2.2.2.2
  have hl : lv_has ls 3 [(0, .ref (ad (10 + i))), (1, .ref (ad (6 + sh)))] := hl
  have f22 := hts (.fieldLink RX2 22 "PumiceSledge$Sledge" "aboard" "I") (by decide +kernel)
  have hi2 : ∀ w ∈ wsX20, w ∈ wsX2_unload := by decide +kernel
  have hi1 : ∀ w ∈ wsX10, w ∈ wsX2_unload := by decide +kernel
  have f9 := hts (.fieldLink RX2 9 "PumiceSledge$Sledge" "weights" "[I") (by decide +kernel)
  have in_X3 := hts (.initialized RX3) (by decide +kernel)
  have stt_X3_kindOf := hts (.static yX3_kindOf) (by decide +kernel)
  refine lv_iconst (v := 0) hx hb dX2_unload_0 (by decide) ?_
  refine lv_istore_n (lv' := [(2, .int 0), (0, .ref (ad (10 + i))), (1, .ref (ad (6 + sh)))]) hx hb dX2_unload_1 rfl hl (by decide) rfl (fun ls hl => ?_)
  have L2 : ∀ (k j : Nat) (H : Heap) (locs : List Loc) (ls : Array Slot), j + k = a → WS D n ad (cC cy ad (unlS al i sh j) ex) (Acc n ad s.heap.size) s.heap H locs → lv_has ls 3 [(0, .ref (ad (10 + i))), (1, .ref (ad (6 + sh))), (2, .int (nI j))] → W p l e { frames := 1, cells := 0, slots := 0, locals := 20 } s m args below meth c H locs 0 0 (MQ below (QDv D n ad s.heap.size (cC cy ad (unloadS al i sh) ex)) args s 0 0 (Acc n ad s.heap.size)) (F0 m 2 ls []) := by
    intro k
    induction k with
    | zero =>
      intro j H locs ls hjk hW hl
      have hjN : j = a := by omega
      try rw [hjN] at hW
      try rw [hjN] at hl
      refine lv_iload_n hx hb dX2_unload_2 rfl (lv_at hl 2 rfl) ?_
      refine lv_aload_n hx hb dX2_unload_3 rfl (lv_at hl 0 rfl) ?_
      refine z_get (C := RX2) (T := TX2) (N := 5) (ci := 2) S hE hW hi2 rfl (Nat.lt_of_lt_of_le (kC_s hi) hn) (cC_s (i := i) hi) 2 (by decide) rfl f22 (v := .int (nI a)) (congrArg (fun z => some (Value.int z)) ((congrFun (unlS_o (by omega) a) 2).trans ha)) dX2_unload_4 ?_
      refine lv_icmp_ge (tgt := 34) hx hb dX2_unload_7 (by decide) (fun _ => ?_) (fun h => absurd (nI_le (Nat.le_refl a) (by omega)) h)
      refine lv_aload_n hx hb dX2_unload_34 rfl (lv_at hl 0 rfl) ?_
      refine lv_iconst (v := 0) hx hb dX2_unload_35 (by decide) ?_
      refine z_put (ce' := cC cy ad (zup (unlS al i sh a) (10 + i) 2 0) ex) (C := RX2) (T := TX2) (N := 5) (ci := 2) S hE hW hi2 tyX2 tyX2_ok nmX2 rfl (Nat.lt_of_lt_of_le (kC_s hi) hn) (cC_s (i := i) hi) 2 (by decide) rfl f22 rfl rfl (Nat.le_of_ble_eq_true rfl) (pC_s (i := i) hi (by decide)) (fun j h => cC_o h) dX2_unload_36 (fun H locs hW => ?_)
      exact ze_v S hW hr hlk () (congrArg (fun z => cC cy ad z ex) (by unfold unloadS; rw [ha, nI_clamp (by omega)])) trivial (Nat.le_of_ble_eq_true rfl) (Nat.le_of_ble_eq_true rfl) dX2_unload_39
    | succ k ih =>
      intro j H locs ls hjk hW hl
      have hj : j < a := by omega
      refine lv_iload_n hx hb dX2_unload_2 rfl (lv_at hl 2 rfl) ?_
      refine lv_aload_n hx hb dX2_unload_3 rfl (lv_at hl 0 rfl) ?_
      refine z_get (C := RX2) (T := TX2) (N := 5) (ci := 2) S hE hW hi2 rfl (Nat.lt_of_lt_of_le (kC_s hi) hn) (cC_s (i := i) hi) 2 (by decide) rfl f22 (v := .int (nI a)) (congrArg (fun z => some (Value.int z)) ((congrFun (unlS_o (by omega) j) 2).trans ha)) dX2_unload_4 ?_
      refine lv_icmp_ge (tgt := 34) hx hb dX2_unload_7 (by decide) (fun h => absurd h (nI_ge hj (by omega))) (fun _ => ?_)
      refine lv_aload_n hx hb dX2_unload_10 rfl (lv_at hl 1 rfl) ?_
      refine z_getN (C := RX1) (T := TX1) (N := 2) (ci := 1) S hE hW hi1 rfl (Nat.lt_of_lt_of_le (kC_h hsh) hn) (cC_h (i := sh) hsh) 0 (by decide) rfl 2 rfl (v := .ref (ad (8 + sh))) rfl dX2_unload_11 ?_
      refine lv_aload_n hx hb dX2_unload_14 rfl (lv_at hl 0 rfl) ?_
      refine z_get (C := RX2) (T := TX2) (N := 5) (ci := 2) S hE hW hi2 rfl (Nat.lt_of_lt_of_le (kC_s hi) hn) (cC_s (i := i) hi) 1 (by decide) rfl f9 (v := .ref (ad (17 + i))) rfl dX2_unload_15 ?_
      refine lv_iload_n hx hb dX2_unload_18 rfl (lv_at hl 2 rfl) ?_
      refine z_ald S hE hW (Nat.lt_of_lt_of_le (kC_w hi) hn) (cC_w (i := i) hi) j rfl (by omega) (by decide) (v := al (17 + i) j) (congrFun (unlS_o (by omega) j) j) dX2_unload_19 ?_
      refine z_pSN (As := [.int (al (17 + i) j)]) (rest := [.ref (ad (8 + sh))]) S hE hW (cX3_kindOf_ok l (al (17 + i) j)) (⟨va_cnB 1 hts gX2_unload_X3_kindOf_n32 rfl rfl rfl (hE.1.2.1.at 15 rfl) in_X3 (by decide +kernel) ⟨Nat.le_of_ble_eq_true rfl, Nat.le_of_ble_eq_true rfl⟩, stt_X3_kindOf, trivial⟩) rfl hl.1 rfl (Nat.le_of_ble_eq_true rfl) dX2_unload_20 ⟨Nat.le_of_ble_eq_true rfl, Nat.le_of_ble_eq_true rfl⟩ (fun H locs hW => ?_)
      refine lv_dup2_11 hx hb dX2_unload_23 rfl rfl ?_
      refine z_ald S hE hW (Nat.lt_of_lt_of_le (kC_hs hsh) hn) (cC_hs (i := sh) hsh) (knN (al (17 + i) j)) (knd_nI _) (knN_lt _) (by decide) (v := (unlS al i sh j) (8 + sh) (knN (al (17 + i) j))) rfl dX2_unload_24 ?_
      refine lv_iconst (v := 1) hx hb dX2_unload_25 (by decide) ?_
      refine lv_iadd hx hb dX2_unload_26 ?_
      refine z_ast (ce' := cC cy ad (zup (unlS al i sh j) (8 + sh) (knN (al (17 + i) j)) ((unlS al i sh j) (8 + sh) (knN (al (17 + i) j)) + 1)) ex) S hE hW (Nat.lt_of_lt_of_le (kC_hs hsh) hn) (cC_hs (i := sh) hsh) (knN (al (17 + i) j)) (knd_nI _) (knN_lt _) (by decide) (pC_hs (i := sh) hsh) (fun j h => cC_o h) dX2_unload_27 (fun H locs hW => ?_)
      refine lv_iinc (v := nI (j + 1)) (lv' := [(2, .int (nI (j + 1))), (0, .ref (ad (10 + i))), (1, .ref (ad (6 + sh)))]) hx hb dX2_unload_28 hl (k := 2) rfl (nI_1 _) (by decide) rfl (fun ls hl => ?_)
      refine lv_goto (tgt := 2) hx hb dX2_unload_31 (by decide) ?_
      exact ih (j + 1) H locs ls (by omega) hW (lv_sub hl [1, 2, 0] rfl)
  exact L2 (a) 0 _ _ ls (by omega) hW (lv_sub hl [1, 2, 0] rfl)
set_option maxHeartbeats 4000000 in
set_option maxRecDepth 100000 in
theorem cX2_weightAboard_ok (l : Launch) (D : va_G) (n : Nat) (ad cy sa : Nat → Nat) (sz : Nat) (hn : 28 ≤ n) (al : Nat → Nat → Int32) (ex : Nat → va_E) (i : Nat) (hi : i < 7) (a : Nat) (ha : al (10 + i) 2 = nI a) (ha8 : a ≤ 8) : Met l yX2_weightAboard wsX2_weightAboard ({ frames := 0, cells := 0, slots := 0, locals := 0 }) (PW D n ad cy sa sz (cC cy ad al ex) [.ref (ad (10 + i))]) (QDi D n ad sz (sumI (al (17 + i)) a) (cC cy ad al ex)) 0 0 (Acc n ad sz) := by
  refine zs_met (cc := cX2_weightAboard) (maxL := 3) (ret := (some .int)) (own := RX2) (by decide) rfl rfl (Nat.le_of_ble_eq_true rfl) ?_
  intro p e s m args below meth c ls S hE hW hr hlk hsz hav hl
  subst hsz
  have hx := S.1
  have hb := S.2.1
  have hown := S.2.2.2.1
  have hts := S.2.2.2.2
  have hl : lv_has ls 3 [(0, .ref (ad (10 + i)))] := hl
  have f22 := hts (.fieldLink RX2 22 "PumiceSledge$Sledge" "aboard" "I") (by decide +kernel)
  have hi2 : ∀ w ∈ wsX20, w ∈ wsX2_weightAboard := by decide +kernel
  have f9 := hts (.fieldLink RX2 9 "PumiceSledge$Sledge" "weights" "[I") (by decide +kernel)
  refine lv_iconst (v := 0) hx hb dX2_weightAboard_0 (by decide) ?_
  refine lv_istore_n (lv' := [(1, .int 0), (0, .ref (ad (10 + i)))]) hx hb dX2_weightAboard_1 rfl hl (by decide) rfl (fun ls hl => ?_)
  refine lv_iconst (v := 0) hx hb dX2_weightAboard_2 (by decide) ?_
  refine lv_istore_n (lv' := [(2, .int 0), (1, .int 0), (0, .ref (ad (10 + i)))]) hx hb dX2_weightAboard_3 rfl hl (by decide) rfl (fun ls hl => ?_)
  have L4 : ∀ (k j : Nat) (H : Heap) (locs : List Loc) (ls : Array Slot), j + k = a → WS D n ad (cC cy ad al ex) (Acc n ad s.heap.size) s.heap H locs → lv_has ls 3 [(0, .ref (ad (10 + i))), (1, .int (sumI (al (17 + i)) j)), (2, .int (nI j))] → W p l e { frames := 0, cells := 0, slots := 0, locals := 0 } s m args below meth c H locs 0 0 (MQ below (QDi D n ad s.heap.size (sumI (al (17 + i)) a) (cC cy ad al ex)) args s 0 0 (Acc n ad s.heap.size)) (F0 m 4 ls []) := by
    intro k
    induction k with
    | zero =>
      intro j H locs ls hjk hW hl
      have hjN : j = a := by omega
      try rw [hjN] at hW
      try rw [hjN] at hl
      refine lv_iload_n hx hb dX2_weightAboard_4 rfl (lv_at hl 2 rfl) ?_
      refine lv_aload_n hx hb dX2_weightAboard_5 rfl (lv_at hl 0 rfl) ?_
      refine z_get (C := RX2) (T := TX2) (N := 5) (ci := 2) S hE hW hi2 rfl (Nat.lt_of_lt_of_le (kC_s hi) hn) (cC_s (i := i) hi) 2 (by decide) rfl f22 (v := .int (nI a)) (congrArg (fun z => some (Value.int z)) (ha)) dX2_weightAboard_6 ?_
      refine lv_icmp_ge (tgt := 27) hx hb dX2_weightAboard_9 (by decide) (fun _ => ?_) (fun h => absurd (nI_le (Nat.le_refl a) (by omega)) h)
      refine lv_iload_n hx hb dX2_weightAboard_27 rfl (lv_at hl 1 rfl) ?_
      exact ze_i S hW hr hlk () rfl rfl (Nat.le_of_ble_eq_true rfl) (Nat.le_of_ble_eq_true rfl) dX2_weightAboard_28
    | succ k ih =>
      intro j H locs ls hjk hW hl
      have hj : j < a := by omega
      refine lv_iload_n hx hb dX2_weightAboard_4 rfl (lv_at hl 2 rfl) ?_
      refine lv_aload_n hx hb dX2_weightAboard_5 rfl (lv_at hl 0 rfl) ?_
      refine z_get (C := RX2) (T := TX2) (N := 5) (ci := 2) S hE hW hi2 rfl (Nat.lt_of_lt_of_le (kC_s hi) hn) (cC_s (i := i) hi) 2 (by decide) rfl f22 (v := .int (nI a)) (congrArg (fun z => some (Value.int z)) (ha)) dX2_weightAboard_6 ?_
      refine lv_icmp_ge (tgt := 27) hx hb dX2_weightAboard_9 (by decide) (fun h => absurd h (nI_ge hj (by omega))) (fun _ => ?_)
      refine lv_iload_n hx hb dX2_weightAboard_12 rfl (lv_at hl 1 rfl) ?_
      refine lv_aload_n hx hb dX2_weightAboard_13 rfl (lv_at hl 0 rfl) ?_
      refine z_get (C := RX2) (T := TX2) (N := 5) (ci := 2) S hE hW hi2 rfl (Nat.lt_of_lt_of_le (kC_s hi) hn) (cC_s (i := i) hi) 1 (by decide) rfl f9 (v := .ref (ad (17 + i))) rfl dX2_weightAboard_14 ?_
      refine lv_iload_n hx hb dX2_weightAboard_17 rfl (lv_at hl 2 rfl) ?_
      refine z_ald S hE hW (Nat.lt_of_lt_of_le (kC_w hi) hn) (cC_w (i := i) hi) j rfl (by omega) (by decide) (v := al (17 + i) j) rfl dX2_weightAboard_18 ?_
      refine lv_iadd hx hb dX2_weightAboard_19 ?_
      refine lv_istore_n (lv' := [(1, .int (sumI (al (17 + i)) j + al (17 + i) j)), (0, .ref (ad (10 + i))), (2, .int (nI j))]) hx hb dX2_weightAboard_20 rfl hl (by decide) rfl (fun ls hl => ?_)
      refine lv_iinc (v := nI (j + 1)) (lv' := [(2, .int (nI (j + 1))), (1, .int (sumI (al (17 + i)) j + al (17 + i) j)), (0, .ref (ad (10 + i)))]) hx hb dX2_weightAboard_21 hl (k := 2) rfl (nI_1 _) (by decide) rfl (fun ls hl => ?_)
      refine lv_goto (tgt := 4) hx hb dX2_weightAboard_24 (by decide) ?_
      exact ih (j + 1) H locs ls (by omega) hW (lv_sub hl [2, 1, 0] rfl)
  exact L4 (a) 0 _ _ ls (by omega) hW (lv_sub hl [2, 1, 0] rfl)
set_option maxHeartbeats 4000000 in
set_option maxRecDepth 100000 in
theorem cX2_comeDown_ok (l : Launch) (D : va_G) (n : Nat) (ad cy sa : Nat → Nat) (sz : Nat) (hn : 28 ≤ n) (al : Nat → Nat → Int32) (ex : Nat → va_E) (i : Nat) (hi : i < 7) (sh : Nat) (hsh : sh < 2) (a : Nat) (ha : al (10 + i) 2 = nI a) (ha8 : a ≤ 8) (g : Int32) : Met l yX2_comeDown wsX2_comeDown ({ frames := 2, cells := 0, slots := 0, locals := 60 }) (PW D n ad cy sa sz (cC cy ad al ex) [.ref (ad (10 + i)), .int g, .ref (ad (6 + sh))]) (QDv D n ad sz (cC cy ad (comeDownS al i sh g) ex)) 0 0 (Acc n ad sz) := by
  refine zs_met (cc := cX2_comeDown) (maxL := 3) (ret := none) (own := RX2) (by decide) rfl rfl (Nat.le_of_ble_eq_true rfl) ?_
  intro p e s m args below meth c ls S hE hW hr hlk hsz hav hl
  subst hsz
  have hx := S.1
  have hb := S.2.1
  have hown := S.2.2.2.1
  have hts := S.2.2.2.2
  have hl : lv_has ls 3 [(0, .ref (ad (10 + i))), (1, .int g), (2, .ref (ad (6 + sh)))] := hl
  have f22 := hts (.fieldLink RX2 22 "PumiceSledge$Sledge" "aboard" "I") (by decide +kernel)
  have hi2 : ∀ w ∈ wsX20, w ∈ wsX2_comeDown := by decide +kernel
  have f15 := hts (.fieldLink RX2 15 "PumiceSledge$Sledge" "height" "I") (by decide +kernel)
  have l54 := hts (.methodLink RX2 54 Lib.Math.max.name) (by decide +kernel)
  have ls_max := hts (.static Lib.Math.max.name) (by decide +kernel)
  have li_Math := hts (.initialized "java/lang/Math") (by decide +kernel)
  have lc_max := hts (.code Lib.Math.max.name Lib.Math.max.code 2 (some .int)) (by decide +kernel)
  have f19 := hts (.fieldLink RX2 19 "PumiceSledge$Sledge" "course" "I") (by decide +kernel)
  have hi1 : ∀ w ∈ wsX10, w ∈ wsX2_comeDown := by decide +kernel
  refine lv_aload_n hx hb dX2_comeDown_0 rfl (lv_at hl 0 rfl) ?_
  refine z_get (C := RX2) (T := TX2) (N := 5) (ci := 2) S hE hW hi2 rfl (Nat.lt_of_lt_of_le (kC_s hi) hn) (cC_s (i := i) hi) 2 (by decide) rfl f22 (v := .int (al (10 + i) 2)) rfl dX2_comeDown_1 ?_
  refine lv_if_le (tgt := 39) hx hb dX2_comeDown_4 (by decide) (fun c4 => ?_) (fun c4 => ?_)
  · refine lv_aload_n hx hb dX2_comeDown_39 rfl (lv_at hl 0 rfl) ?_
    refine lv_iconst (v := 0) hx hb dX2_comeDown_40 (by decide) ?_
    refine lv_aload_n hx hb dX2_comeDown_41 rfl (lv_at hl 0 rfl) ?_
    refine z_get (C := RX2) (T := TX2) (N := 5) (ci := 2) S hE hW hi2 rfl (Nat.lt_of_lt_of_le (kC_s hi) hn) (cC_s (i := i) hi) 3 (by decide) rfl f15 (v := .int (al (10 + i) 3)) rfl dX2_comeDown_42 ?_
    refine lv_iconst (v := 4) hx hb dX2_comeDown_45 (by decide) ?_
    refine lv_aload_n hx hb dX2_comeDown_46 rfl (lv_at hl 0 rfl) ?_
    refine z_get (C := RX2) (T := TX2) (N := 5) (ci := 2) S hE hW hi2 rfl (Nat.lt_of_lt_of_le (kC_s hi) hn) (cC_s (i := i) hi) 2 (by decide) rfl f22 (v := .int (al (10 + i) 2)) rfl dX2_comeDown_47 ?_
    refine lv_iconst (v := 3) hx hb dX2_comeDown_50 (by decide) ?_
    refine lv_idiv hx hb dX2_comeDown_51 (by decide) ?_
    refine lv_isub hx hb dX2_comeDown_52 ?_
    refine lv_iload_n hx hb dX2_comeDown_53 rfl (lv_at hl 1 rfl) ?_
    refine lv_iconst (v := 2) hx hb dX2_comeDown_54 (by decide) ?_
    refine lv_idiv hx hb dX2_comeDown_55 (by decide) ?_
    refine lv_iadd hx hb dX2_comeDown_56 ?_
    refine lv_isub hx hb dX2_comeDown_57 ?_
    refine z_mmax S hl.1 l54 ls_max li_Math lc_max ⟨Nat.le_of_ble_eq_true rfl, Nat.le_of_ble_eq_true rfl, Nat.le_of_ble_eq_true rfl, Nat.le_of_ble_eq_true rfl⟩ dX2_comeDown_58 (v := zmx 0 (al (10 + i) 3 - ((4 - (al (10 + i) 2 / 3)) + (g / 2)))) rfl ?_
    refine z_put (ce' := cC cy ad (zup al (10 + i) 3 (zmx 0 (al (10 + i) 3 - ((4 - (al (10 + i) 2 / 3)) + (g / 2))))) ex) (C := RX2) (T := TX2) (N := 5) (ci := 2) S hE hW hi2 tyX2 tyX2_ok nmX2 rfl (Nat.lt_of_lt_of_le (kC_s hi) hn) (cC_s (i := i) hi) 3 (by decide) rfl f15 rfl rfl (Nat.le_of_ble_eq_true rfl) (pC_s (i := i) hi (by decide)) (fun j h => cC_o h) dX2_comeDown_61 (fun H locs hW => ?_)
    have hsl : (zup al (10 + i) 3 (zmx 0 (al (10 + i) 3 - ((4 - (al (10 + i) 2 / 3)) + (g / 2))))) = slideS al i sh g := by unfold slideS; rw [if_neg (fun h => h.1 c4)]
    rw [hsl] at hW
    refine lv_aload_n hx hb dX2_comeDown_64 rfl (lv_at hl 0 rfl) ?_
    refine z_get (C := RX2) (T := TX2) (N := 5) (ci := 2) S hE hW hi2 rfl (Nat.lt_of_lt_of_le (kC_s hi) hn) (cC_s (i := i) hi) 3 (by decide) rfl f15 (v := .int ((slideS al i sh g) (10 + i) 3)) rfl dX2_comeDown_65 ?_
    refine lv_if_ne (tgt := 81) hx hb dX2_comeDown_68 (by decide) (fun c68 => ?_) (fun c68 => ?_)
    · exact ze_v S hW hr hlk () (congrArg (fun z => cC cy ad z ex) (by unfold comeDownS; rw [if_neg c68])) trivial (Nat.le_of_ble_eq_true rfl) (Nat.le_of_ble_eq_true rfl) dX2_comeDown_81
    · obtain ⟨b, hba, hb8⟩ := slideS_ab (g := g) hsh ha ha8
      refine lv_aload_n hx hb dX2_comeDown_71 rfl (lv_at hl 0 rfl) ?_
      refine lv_aload_n hx hb dX2_comeDown_72 rfl (lv_at hl 2 rfl) ?_
      refine z_cVv (As := [.ref (ad (6 + sh))]) (rest := []) (k := (10 + i)) S hE hW (cX2_unload_ok l D n ad cy sa H.size hn (slideS al i sh g) ex i hi sh hsh b hb8 (by omega)) (cwV 1 hts gX2_comeDown_X2_unload rfl rfl rfl (by decide +kernel) ⟨Nat.le_of_ble_eq_true rfl, Nat.le_of_ble_eq_true rfl⟩) (Nat.lt_of_lt_of_le (kC_s hi) hn) (cC_s (i := i) hi) rfl rfl rfl hl.1 rfl (Nat.le_of_ble_eq_true rfl) dX2_comeDown_73 ⟨Nat.le_of_ble_eq_true rfl, Nat.le_of_ble_eq_true rfl⟩ (fun _ H locs _ hW => ?_)
      refine lv_aload_n hx hb dX2_comeDown_76 rfl (lv_at hl 0 rfl) ?_
      refine lv_iconst (v := 2) hx hb dX2_comeDown_77 (by decide) ?_
      refine z_put (ce' := cC cy ad (zup (unloadS (slideS al i sh g) i sh) (10 + i) 4 2) ex) (C := RX2) (T := TX2) (N := 5) (ci := 2) S hE hW hi2 tyX2 tyX2_ok nmX2 rfl (Nat.lt_of_lt_of_le (kC_s hi) hn) (cC_s (i := i) hi) 4 (by decide) rfl f19 rfl rfl (Nat.le_of_ble_eq_true rfl) (pC_s (i := i) hi (by decide)) (fun j h => cC_o h) dX2_comeDown_78 (fun H locs hW => ?_)
      exact ze_v S hW hr hlk () (congrArg (fun z => cC cy ad z ex) (by unfold comeDownS; rw [if_pos c68])) trivial (Nat.le_of_ble_eq_true rfl) (Nat.le_of_ble_eq_true rfl) dX2_comeDown_81
  · refine lv_iload_n hx hb dX2_comeDown_7 rfl (lv_at hl 1 rfl) ?_
    refine lv_iconst (v := 4) hx hb dX2_comeDown_8 (by decide) ?_
    refine lv_iconst (v := 2) hx hb dX2_comeDown_9 (by decide) ?_
    refine lv_aload_n hx hb dX2_comeDown_10 rfl (lv_at hl 0 rfl) ?_
    refine z_get (C := RX2) (T := TX2) (N := 5) (ci := 2) S hE hW hi2 rfl (Nat.lt_of_lt_of_le (kC_s hi) hn) (cC_s (i := i) hi) 2 (by decide) rfl f22 (v := .int (al (10 + i) 2)) rfl dX2_comeDown_11 ?_
    refine lv_imul hx hb dX2_comeDown_14 ?_
    refine lv_iadd hx hb dX2_comeDown_15 ?_
    refine lv_icmp_le (tgt := 39) hx hb dX2_comeDown_16 (by decide) (fun c16 => ?_) (fun c16 => ?_)
    · refine lv_aload_n hx hb dX2_comeDown_39 rfl (lv_at hl 0 rfl) ?_
      refine lv_iconst (v := 0) hx hb dX2_comeDown_40 (by decide) ?_
      refine lv_aload_n hx hb dX2_comeDown_41 rfl (lv_at hl 0 rfl) ?_
      refine z_get (C := RX2) (T := TX2) (N := 5) (ci := 2) S hE hW hi2 rfl (Nat.lt_of_lt_of_le (kC_s hi) hn) (cC_s (i := i) hi) 3 (by decide) rfl f15 (v := .int (al (10 + i) 3)) rfl dX2_comeDown_42 ?_
      refine lv_iconst (v := 4) hx hb dX2_comeDown_45 (by decide) ?_
      refine lv_aload_n hx hb dX2_comeDown_46 rfl (lv_at hl 0 rfl) ?_
      refine z_get (C := RX2) (T := TX2) (N := 5) (ci := 2) S hE hW hi2 rfl (Nat.lt_of_lt_of_le (kC_s hi) hn) (cC_s (i := i) hi) 2 (by decide) rfl f22 (v := .int (al (10 + i) 2)) rfl dX2_comeDown_47 ?_
      refine lv_iconst (v := 3) hx hb dX2_comeDown_50 (by decide) ?_
      refine lv_idiv hx hb dX2_comeDown_51 (by decide) ?_
      refine lv_isub hx hb dX2_comeDown_52 ?_
      refine lv_iload_n hx hb dX2_comeDown_53 rfl (lv_at hl 1 rfl) ?_
      refine lv_iconst (v := 2) hx hb dX2_comeDown_54 (by decide) ?_
      refine lv_idiv hx hb dX2_comeDown_55 (by decide) ?_
      refine lv_iadd hx hb dX2_comeDown_56 ?_
      refine lv_isub hx hb dX2_comeDown_57 ?_
      refine z_mmax S hl.1 l54 ls_max li_Math lc_max ⟨Nat.le_of_ble_eq_true rfl, Nat.le_of_ble_eq_true rfl, Nat.le_of_ble_eq_true rfl, Nat.le_of_ble_eq_true rfl⟩ dX2_comeDown_58 (v := zmx 0 (al (10 + i) 3 - ((4 - (al (10 + i) 2 / 3)) + (g / 2)))) rfl ?_
      refine z_put (ce' := cC cy ad (zup al (10 + i) 3 (zmx 0 (al (10 + i) 3 - ((4 - (al (10 + i) 2 / 3)) + (g / 2))))) ex) (C := RX2) (T := TX2) (N := 5) (ci := 2) S hE hW hi2 tyX2 tyX2_ok nmX2 rfl (Nat.lt_of_lt_of_le (kC_s hi) hn) (cC_s (i := i) hi) 3 (by decide) rfl f15 rfl rfl (Nat.le_of_ble_eq_true rfl) (pC_s (i := i) hi (by decide)) (fun j h => cC_o h) dX2_comeDown_61 (fun H locs hW => ?_)
      have hsl : (zup al (10 + i) 3 (zmx 0 (al (10 + i) 3 - ((4 - (al (10 + i) 2 / 3)) + (g / 2))))) = slideS al i sh g := by unfold slideS; rw [if_neg (fun h => h.2 c16)]
      rw [hsl] at hW
      refine lv_aload_n hx hb dX2_comeDown_64 rfl (lv_at hl 0 rfl) ?_
      refine z_get (C := RX2) (T := TX2) (N := 5) (ci := 2) S hE hW hi2 rfl (Nat.lt_of_lt_of_le (kC_s hi) hn) (cC_s (i := i) hi) 3 (by decide) rfl f15 (v := .int ((slideS al i sh g) (10 + i) 3)) rfl dX2_comeDown_65 ?_
      refine lv_if_ne (tgt := 81) hx hb dX2_comeDown_68 (by decide) (fun c68 => ?_) (fun c68 => ?_)
      · exact ze_v S hW hr hlk () (congrArg (fun z => cC cy ad z ex) (by unfold comeDownS; rw [if_neg c68])) trivial (Nat.le_of_ble_eq_true rfl) (Nat.le_of_ble_eq_true rfl) dX2_comeDown_81
      · obtain ⟨b, hba, hb8⟩ := slideS_ab (g := g) hsh ha ha8
        refine lv_aload_n hx hb dX2_comeDown_71 rfl (lv_at hl 0 rfl) ?_
        refine lv_aload_n hx hb dX2_comeDown_72 rfl (lv_at hl 2 rfl) ?_
        refine z_cVv (As := [.ref (ad (6 + sh))]) (rest := []) (k := (10 + i)) S hE hW (cX2_unload_ok l D n ad cy sa H.size hn (slideS al i sh g) ex i hi sh hsh b hb8 (by omega)) (cwV 1 hts gX2_comeDown_X2_unload rfl rfl rfl (by decide +kernel) ⟨Nat.le_of_ble_eq_true rfl, Nat.le_of_ble_eq_true rfl⟩) (Nat.lt_of_lt_of_le (kC_s hi) hn) (cC_s (i := i) hi) rfl rfl rfl hl.1 rfl (Nat.le_of_ble_eq_true rfl) dX2_comeDown_73 ⟨Nat.le_of_ble_eq_true rfl, Nat.le_of_ble_eq_true rfl⟩ (fun _ H locs _ hW => ?_)
        refine lv_aload_n hx hb dX2_comeDown_76 rfl (lv_at hl 0 rfl) ?_
        refine lv_iconst (v := 2) hx hb dX2_comeDown_77 (by decide) ?_
        refine z_put (ce' := cC cy ad (zup (unloadS (slideS al i sh g) i sh) (10 + i) 4 2) ex) (C := RX2) (T := TX2) (N := 5) (ci := 2) S hE hW hi2 tyX2 tyX2_ok nmX2 rfl (Nat.lt_of_lt_of_le (kC_s hi) hn) (cC_s (i := i) hi) 4 (by decide) rfl f19 rfl rfl (Nat.le_of_ble_eq_true rfl) (pC_s (i := i) hi (by decide)) (fun j h => cC_o h) dX2_comeDown_78 (fun H locs hW => ?_)
        exact ze_v S hW hr hlk () (congrArg (fun z => cC cy ad z ex) (by unfold comeDownS; rw [if_pos c68])) trivial (Nat.le_of_ble_eq_true rfl) (Nat.le_of_ble_eq_true rfl) dX2_comeDown_81
    · refine lv_aload_n hx hb dX2_comeDown_19 rfl (lv_at hl 0 rfl) ?_
      refine lv_dup hx hb dX2_comeDown_20 rfl ?_
      refine z_get (C := RX2) (T := TX2) (N := 5) (ci := 2) S hE hW hi2 rfl (Nat.lt_of_lt_of_le (kC_s hi) hn) (cC_s (i := i) hi) 2 (by decide) rfl f22 (v := .int (al (10 + i) 2)) rfl dX2_comeDown_21 ?_
      refine lv_iconst (v := 1) hx hb dX2_comeDown_24 (by decide) ?_
      refine lv_isub hx hb dX2_comeDown_25 ?_
      refine z_put (ce' := cC cy ad (zup al (10 + i) 2 (al (10 + i) 2 - 1)) ex) (C := RX2) (T := TX2) (N := 5) (ci := 2) S hE hW hi2 tyX2 tyX2_ok nmX2 rfl (Nat.lt_of_lt_of_le (kC_s hi) hn) (cC_s (i := i) hi) 2 (by decide) rfl f22 rfl rfl (Nat.le_of_ble_eq_true rfl) (pC_s (i := i) hi (by decide)) (fun j h => cC_o h) dX2_comeDown_26 (fun H locs hW => ?_)
      refine lv_aload_n hx hb dX2_comeDown_29 rfl (lv_at hl 2 rfl) ?_
      refine lv_dup hx hb dX2_comeDown_30 rfl ?_
      refine z_getN (C := RX1) (T := TX1) (N := 2) (ci := 1) S hE hW hi1 rfl (Nat.lt_of_lt_of_le (kC_h hsh) hn) (cC_h (i := sh) hsh) 1 (by decide) rfl 3 rfl (v := .int (al (6 + sh) 1)) (congrArg (fun z => some (Value.int z)) (congrFun (zup_o (by omega)) 1)) dX2_comeDown_31 ?_
      refine lv_iconst (v := 1) hx hb dX2_comeDown_34 (by decide) ?_
      refine lv_iadd hx hb dX2_comeDown_35 ?_
      refine z_putN (ce' := cC cy ad (zup (zup al (10 + i) 2 (al (10 + i) 2 - 1)) (6 + sh) 1 (al (6 + sh) 1 + 1)) ex) (C := RX1) (T := TX1) (N := 2) (ci := 1) S hE hW hi1 tyX1 tyX1_ok nmX1 rfl (Nat.lt_of_lt_of_le (kC_h hsh) hn) (cC_h (i := sh) hsh) 1 (by decide) rfl 3 rfl rfl rfl (Nat.le_of_ble_eq_true rfl) (pC_h (i := sh) hsh) (fun j h => cC_o h) dX2_comeDown_36 (fun H locs hW => ?_)
      refine lv_aload_n hx hb dX2_comeDown_39 rfl (lv_at hl 0 rfl) ?_
      refine lv_iconst (v := 0) hx hb dX2_comeDown_40 (by decide) ?_
      refine lv_aload_n hx hb dX2_comeDown_41 rfl (lv_at hl 0 rfl) ?_
      refine z_get (C := RX2) (T := TX2) (N := 5) (ci := 2) S hE hW hi2 rfl (Nat.lt_of_lt_of_le (kC_s hi) hn) (cC_s (i := i) hi) 3 (by decide) rfl f15 (v := .int (al (10 + i) 3)) (congrArg (fun z => some (Value.int z)) ((congrFun (zup_o (by omega)) 3).trans ((congrFun zup_k 3).trans (up_n (by decide))))) dX2_comeDown_42 ?_
      refine lv_iconst (v := 4) hx hb dX2_comeDown_45 (by decide) ?_
      refine lv_aload_n hx hb dX2_comeDown_46 rfl (lv_at hl 0 rfl) ?_
      refine z_get (C := RX2) (T := TX2) (N := 5) (ci := 2) S hE hW hi2 rfl (Nat.lt_of_lt_of_le (kC_s hi) hn) (cC_s (i := i) hi) 2 (by decide) rfl f22 (v := .int (al (10 + i) 2 - 1)) (congrArg (fun z => some (Value.int z)) ((congrFun (zup_o (by omega)) 2).trans ((congrFun zup_k 2).trans up_s))) dX2_comeDown_47 ?_
      refine lv_iconst (v := 3) hx hb dX2_comeDown_50 (by decide) ?_
      refine lv_idiv hx hb dX2_comeDown_51 (by decide) ?_
      refine lv_isub hx hb dX2_comeDown_52 ?_
      refine lv_iload_n hx hb dX2_comeDown_53 rfl (lv_at hl 1 rfl) ?_
      refine lv_iconst (v := 2) hx hb dX2_comeDown_54 (by decide) ?_
      refine lv_idiv hx hb dX2_comeDown_55 (by decide) ?_
      refine lv_iadd hx hb dX2_comeDown_56 ?_
      refine lv_isub hx hb dX2_comeDown_57 ?_
      refine z_mmax S hl.1 l54 ls_max li_Math lc_max ⟨Nat.le_of_ble_eq_true rfl, Nat.le_of_ble_eq_true rfl, Nat.le_of_ble_eq_true rfl, Nat.le_of_ble_eq_true rfl⟩ dX2_comeDown_58 (v := zmx 0 (al (10 + i) 3 - ((4 - ((al (10 + i) 2 - 1) / 3)) + (g / 2)))) rfl ?_
      refine z_put (ce' := cC cy ad (zup (zup (zup al (10 + i) 2 (al (10 + i) 2 - 1)) (6 + sh) 1 (al (6 + sh) 1 + 1)) (10 + i) 3 (zmx 0 (al (10 + i) 3 - ((4 - ((al (10 + i) 2 - 1) / 3)) + (g / 2))))) ex) (C := RX2) (T := TX2) (N := 5) (ci := 2) S hE hW hi2 tyX2 tyX2_ok nmX2 rfl (Nat.lt_of_lt_of_le (kC_s hi) hn) (cC_s (i := i) hi) 3 (by decide) rfl f15 rfl rfl (Nat.le_of_ble_eq_true rfl) (pC_s (i := i) hi (by decide)) (fun j h => cC_o h) dX2_comeDown_61 (fun H locs hW => ?_)
      have hsl : (zup (zup (zup al (10 + i) 2 (al (10 + i) 2 - 1)) (6 + sh) 1 (al (6 + sh) 1 + 1)) (10 + i) 3 (zmx 0 (al (10 + i) 3 - ((4 - ((al (10 + i) 2 - 1) / 3)) + (g / 2))))) = slideS al i sh g := by unfold slideS; rw [if_pos ⟨c4, c16⟩]
      rw [hsl] at hW
      refine lv_aload_n hx hb dX2_comeDown_64 rfl (lv_at hl 0 rfl) ?_
      refine z_get (C := RX2) (T := TX2) (N := 5) (ci := 2) S hE hW hi2 rfl (Nat.lt_of_lt_of_le (kC_s hi) hn) (cC_s (i := i) hi) 3 (by decide) rfl f15 (v := .int ((slideS al i sh g) (10 + i) 3)) rfl dX2_comeDown_65 ?_
      refine lv_if_ne (tgt := 81) hx hb dX2_comeDown_68 (by decide) (fun c68 => ?_) (fun c68 => ?_)
      · exact ze_v S hW hr hlk () (congrArg (fun z => cC cy ad z ex) (by unfold comeDownS; rw [if_neg c68])) trivial (Nat.le_of_ble_eq_true rfl) (Nat.le_of_ble_eq_true rfl) dX2_comeDown_81
      · obtain ⟨b, hba, hb8⟩ := slideS_ab (g := g) hsh ha ha8
        refine lv_aload_n hx hb dX2_comeDown_71 rfl (lv_at hl 0 rfl) ?_
        refine lv_aload_n hx hb dX2_comeDown_72 rfl (lv_at hl 2 rfl) ?_
        refine z_cVv (As := [.ref (ad (6 + sh))]) (rest := []) (k := (10 + i)) S hE hW (cX2_unload_ok l D n ad cy sa H.size hn (slideS al i sh g) ex i hi sh hsh b hb8 (by omega)) (cwV 1 hts gX2_comeDown_X2_unload rfl rfl rfl (by decide +kernel) ⟨Nat.le_of_ble_eq_true rfl, Nat.le_of_ble_eq_true rfl⟩) (Nat.lt_of_lt_of_le (kC_s hi) hn) (cC_s (i := i) hi) rfl rfl rfl hl.1 rfl (Nat.le_of_ble_eq_true rfl) dX2_comeDown_73 ⟨Nat.le_of_ble_eq_true rfl, Nat.le_of_ble_eq_true rfl⟩ (fun _ H locs _ hW => ?_)
        refine lv_aload_n hx hb dX2_comeDown_76 rfl (lv_at hl 0 rfl) ?_
        refine lv_iconst (v := 2) hx hb dX2_comeDown_77 (by decide) ?_
        refine z_put (ce' := cC cy ad (zup (unloadS (slideS al i sh g) i sh) (10 + i) 4 2) ex) (C := RX2) (T := TX2) (N := 5) (ci := 2) S hE hW hi2 tyX2 tyX2_ok nmX2 rfl (Nat.lt_of_lt_of_le (kC_s hi) hn) (cC_s (i := i) hi) 4 (by decide) rfl f19 rfl rfl (Nat.le_of_ble_eq_true rfl) (pC_s (i := i) hi (by decide)) (fun j h => cC_o h) dX2_comeDown_78 (fun H locs hW => ?_)
        exact ze_v S hW hr hlk () (congrArg (fun z => cC cy ad z ex) (by unfold comeDownS; rw [if_pos c68])) trivial (Nat.le_of_ble_eq_true rfl) (Nat.le_of_ble_eq_true rfl) dX2_comeDown_81
set_option maxHeartbeats 4000000 in
set_option maxRecDepth 100000 in
theorem cX2_travel_ok (l : Launch) (D : va_G) (n : Nat) (ad cy sa : Nat → Nat) (sz : Nat) (hn : 28 ≤ n) (al : Nat → Nat → Int32) (ex : Nat → va_E) (i : Nat) (hi : i < 7) (sh : Nat) (hsh : sh < 2) (a : Nat) (ha : al (10 + i) 2 = nI a) (ha8 : a ≤ 8) (g : Int32) : Met l yX2_travel wsX2_travel ({ frames := 3, cells := 0, slots := 0, locals := 82 }) (PW D n ad cy sa sz (cC cy ad al ex) [.ref (ad (10 + i)), .int g, .ref (ad (6 + sh))]) (QDv D n ad sz (cC cy ad (travelS al i sh g) ex)) 0 0 (Acc n ad sz) := by
  refine zs_met (cc := cX2_travel) (maxL := 3) (ret := none) (own := RX2) (by decide) rfl rfl (Nat.le_of_ble_eq_true rfl) ?_
  intro p e s m args below meth c ls S hE hW hr hlk hsz hav hl
  subst hsz
  have hx := S.1
  have hb := S.2.1
  have hown := S.2.2.2.1
  have hts := S.2.2.2.2
  have hl : lv_has ls 3 [(0, .ref (ad (10 + i))), (1, .int g), (2, .ref (ad (6 + sh)))] := hl
  have f19 := hts (.fieldLink RX2 19 "PumiceSledge$Sledge" "course" "I") (by decide +kernel)
  have hi2 : ∀ w ∈ wsX20, w ∈ wsX2_travel := by decide +kernel
  refine lv_aload_n hx hb dX2_travel_0 rfl (lv_at hl 0 rfl) ?_
  refine z_get (C := RX2) (T := TX2) (N := 5) (ci := 2) S hE hW hi2 rfl (Nat.lt_of_lt_of_le (kC_s hi) hn) (cC_s (i := i) hi) 4 (by decide) rfl f19 (v := .int (al (10 + i) 4)) rfl dX2_travel_1 ?_
  refine lv_iconst (v := 1) hx hb dX2_travel_4 (by decide) ?_
  refine lv_icmp_ne (tgt := 17) hx hb dX2_travel_5 (by decide) (fun c5 => ?_) (fun c5 => ?_)
  · refine lv_aload_n hx hb dX2_travel_17 rfl (lv_at hl 0 rfl) ?_
    refine z_get (C := RX2) (T := TX2) (N := 5) (ci := 2) S hE hW hi2 rfl (Nat.lt_of_lt_of_le (kC_s hi) hn) (cC_s (i := i) hi) 4 (by decide) rfl f19 (v := .int (al (10 + i) 4)) rfl dX2_travel_18 ?_
    refine lv_iconst (v := 2) hx hb dX2_travel_21 (by decide) ?_
    refine lv_icmp_ne (tgt := 29) hx hb dX2_travel_22 (by decide) (fun c22 => ?_) (fun c22 => ?_)
    · exact ze_v S hW hr hlk () (congrArg (fun z => cC cy ad z ex) (by unfold travelS; rw [if_neg c5, if_neg c22])) trivial (Nat.le_of_ble_eq_true rfl) (Nat.le_of_ble_eq_true rfl) dX2_travel_29
    · refine lv_aload_n hx hb dX2_travel_25 rfl (lv_at hl 0 rfl) ?_
      refine z_cVv (As := []) (rest := []) (k := (10 + i)) S hE hW (cX2_comeUp_ok l D n ad cy sa s.heap.size hn al ex i hi ) (cwV 0 hts gX2_travel_X2_comeUp rfl rfl rfl (by decide +kernel) ⟨Nat.le_of_ble_eq_true rfl, Nat.le_of_ble_eq_true rfl⟩) (Nat.lt_of_lt_of_le (kC_s hi) hn) (cC_s (i := i) hi) rfl rfl rfl hl.1 rfl (Nat.le_of_ble_eq_true rfl) dX2_travel_26 ⟨Nat.le_of_ble_eq_true rfl, Nat.le_of_ble_eq_true rfl⟩ (fun _ H locs _ hW => ?_)
      exact ze_v S hW hr hlk () (congrArg (fun z => cC cy ad z ex) (by unfold travelS; rw [if_neg c5, if_pos c22])) trivial (Nat.le_of_ble_eq_true rfl) (Nat.le_of_ble_eq_true rfl) dX2_travel_29
  · refine lv_aload_n hx hb dX2_travel_8 rfl (lv_at hl 0 rfl) ?_
    refine lv_iload_n hx hb dX2_travel_9 rfl (lv_at hl 1 rfl) ?_
    refine lv_aload_n hx hb dX2_travel_10 rfl (lv_at hl 2 rfl) ?_
    refine z_cVv (As := [.int g, .ref (ad (6 + sh))]) (rest := []) (k := (10 + i)) S hE hW (cX2_comeDown_ok l D n ad cy sa s.heap.size hn al ex i hi sh hsh a ha ha8 g) (cwV 2 hts gX2_travel_X2_comeDown rfl rfl rfl (by decide +kernel) ⟨Nat.le_of_ble_eq_true rfl, Nat.le_of_ble_eq_true rfl⟩) (Nat.lt_of_lt_of_le (kC_s hi) hn) (cC_s (i := i) hi) rfl rfl rfl hl.1 rfl (Nat.le_of_ble_eq_true rfl) dX2_travel_11 ⟨Nat.le_of_ble_eq_true rfl, Nat.le_of_ble_eq_true rfl⟩ (fun _ H locs _ hW => ?_)
    refine lv_goto (tgt := 29) hx hb dX2_travel_14 (by decide) ?_
    exact ze_v S hW hr hlk () (congrArg (fun z => cC cy ad z ex) (by unfold travelS; rw [if_pos c5])) trivial (Nat.le_of_ble_eq_true rfl) (Nat.le_of_ble_eq_true rfl) dX2_travel_29
set_option maxHeartbeats 4000000 in
set_option maxRecDepth 100000 in
theorem cX2_become_ok (l : Launch) (D : va_G) (n : Nat) (ad cy sa : Nat → Nat) (sz : Nat) (hn : 28 ≤ n) (al : Nat → Nat → Int32) (ex : Nat → va_E) (i : Nat) (hi : i < 7) (k : Nat) (hk : k < 7) (hik : i ≠ k) : Met l yX2_become wsX2_become ({ frames := 1, cells := 0, slots := 0, locals := 60 }) (PW D n ad cy sa sz (cC cy ad al ex) [.ref (ad (10 + i)), .ref (ad (10 + k))]) (QDv D n ad sz (cC cy ad (becomeS al i k) ex)) 0 0 (Acc n ad sz) := by
  refine zs_met (cc := cX2_become) (maxL := 2) (ret := none) (own := RX2) (by decide) rfl rfl (Nat.le_of_ble_eq_true rfl) ?_
  intro p e s m args below meth c ls S hE hW hr hlk hsz hav hl
  subst hsz
  have hx := S.1
  have hb := S.2.1
  have hown := S.2.2.2.1
  have hts := S.2.2.2.2
  have hl : lv_has ls 2 [(0, .ref (ad (10 + i))), (1, .ref (ad (10 + k)))] := hl
  have f25 := hts (.fieldLink RX2 25 "PumiceSledge$Sledge" "holds" "I") (by decide +kernel)
  have hi2 : ∀ w ∈ wsX20, w ∈ wsX2_become := by decide +kernel
  have f9 := hts (.fieldLink RX2 9 "PumiceSledge$Sledge" "weights" "[I") (by decide +kernel)
  have l36 := hts (.methodLink RX2 36 arraycopyName) (by decide +kernel)
  have ac_nat := hts (.native arraycopyName) (by decide +kernel)
  have ac_st := hts (.static arraycopyName) (by decide +kernel)
  have ac_in := hts (.initialized "java/lang/System") (by decide +kernel)
  have f22 := hts (.fieldLink RX2 22 "PumiceSledge$Sledge" "aboard" "I") (by decide +kernel)
  have f15 := hts (.fieldLink RX2 15 "PumiceSledge$Sledge" "height" "I") (by decide +kernel)
  have f19 := hts (.fieldLink RX2 19 "PumiceSledge$Sledge" "course" "I") (by decide +kernel)
  refine lv_aload_n hx hb dX2_become_0 rfl (lv_at hl 0 rfl) ?_
  refine lv_aload_n hx hb dX2_become_1 rfl (lv_at hl 1 rfl) ?_
  refine z_get (C := RX2) (T := TX2) (N := 5) (ci := 2) S hE hW hi2 rfl (Nat.lt_of_lt_of_le (kC_s hk) hn) (cC_s (i := k) hk) 0 (by decide) rfl f25 (v := .int (al (10 + k) 0)) rfl dX2_become_2 ?_
  refine z_put (ce' := cC cy ad (zup al (10 + i) 0 (al (10 + k) 0)) ex) (C := RX2) (T := TX2) (N := 5) (ci := 2) S hE hW hi2 tyX2 tyX2_ok nmX2 rfl (Nat.lt_of_lt_of_le (kC_s hi) hn) (cC_s (i := i) hi) 0 (by decide) rfl f25 rfl rfl (Nat.le_of_ble_eq_true rfl) (pC_s (i := i) hi (by decide)) (fun j h => cC_o h) dX2_become_5 (fun H locs hW => ?_)
  refine lv_aload_n hx hb dX2_become_8 rfl (lv_at hl 1 rfl) ?_
  refine z_get (C := RX2) (T := TX2) (N := 5) (ci := 2) S hE hW hi2 rfl (Nat.lt_of_lt_of_le (kC_s hk) hn) (cC_s (i := k) hk) 1 (by decide) rfl f9 (v := .ref (ad (17 + k))) rfl dX2_become_9 ?_
  refine lv_iconst (v := 0) hx hb dX2_become_12 (by decide) ?_
  refine lv_aload_n hx hb dX2_become_13 rfl (lv_at hl 0 rfl) ?_
  refine z_get (C := RX2) (T := TX2) (N := 5) (ci := 2) S hE hW hi2 rfl (Nat.lt_of_lt_of_le (kC_s hi) hn) (cC_s (i := i) hi) 1 (by decide) rfl f9 (v := .ref (ad (17 + i))) rfl dX2_become_14 ?_
  refine lv_iconst (v := 0) hx hb dX2_become_17 (by decide) ?_
  refine lv_bipush (v := 8) hx hb dX2_become_18 (by decide) ?_
  refine z_copy (ce' := cC cy ad (zset (zup al (10 + i) 0 (al (10 + k) 0)) (17 + i) (va_cpy ((zup al (10 + i) 0 (al (10 + k) 0)) (17 + k)) ((zup al (10 + i) 0 (al (10 + k) 0)) (17 + i)) 0 0 8)) ex) (N := 8) S hE hW hl.1 (Nat.lt_of_lt_of_le (kC_w hk) hn) (Nat.lt_of_lt_of_le (kC_w hi) hn) (cC_w (i := k) hk) (cC_w (i := i) hi) (by decide) (by decide) (by decide) rfl l36 ac_nat ac_st ac_in ⟨Nat.le_of_ble_eq_true rfl, Nat.le_of_ble_eq_true rfl⟩ (qC_w (i := i) hi) (fun j h => qC_o h) dX2_become_20 (fun H locs hW => ?_)
  refine lv_aload_n hx hb dX2_become_23 rfl (lv_at hl 0 rfl) ?_
  refine lv_aload_n hx hb dX2_become_24 rfl (lv_at hl 1 rfl) ?_
  refine z_get (C := RX2) (T := TX2) (N := 5) (ci := 2) S hE hW hi2 rfl (Nat.lt_of_lt_of_le (kC_s hk) hn) (cC_s (i := k) hk) 2 (by decide) rfl f22 (v := .int (al (10 + k) 2)) (congrArg (fun z => some (Value.int z)) ((congrFun (zset_o (by omega)) 2).trans (congrFun (zup_o (by omega)) 2))) dX2_become_25 ?_
  refine z_put (ce' := cC cy ad (zup (zset (zup al (10 + i) 0 (al (10 + k) 0)) (17 + i) (va_cpy ((zup al (10 + i) 0 (al (10 + k) 0)) (17 + k)) ((zup al (10 + i) 0 (al (10 + k) 0)) (17 + i)) 0 0 8)) (10 + i) 2 (al (10 + k) 2)) ex) (C := RX2) (T := TX2) (N := 5) (ci := 2) S hE hW hi2 tyX2 tyX2_ok nmX2 rfl (Nat.lt_of_lt_of_le (kC_s hi) hn) (cC_s (i := i) hi) 2 (by decide) rfl f22 rfl rfl (Nat.le_of_ble_eq_true rfl) (pC_s (i := i) hi (by decide)) (fun j h => cC_o h) dX2_become_28 (fun H locs hW => ?_)
  refine lv_aload_n hx hb dX2_become_31 rfl (lv_at hl 0 rfl) ?_
  refine lv_aload_n hx hb dX2_become_32 rfl (lv_at hl 1 rfl) ?_
  refine z_get (C := RX2) (T := TX2) (N := 5) (ci := 2) S hE hW hi2 rfl (Nat.lt_of_lt_of_le (kC_s hk) hn) (cC_s (i := k) hk) 3 (by decide) rfl f15 (v := .int (al (10 + k) 3)) (congrArg (fun z => some (Value.int z)) ((congrFun (zup_o (by omega)) 3).trans ((congrFun (zset_o (by omega)) 3).trans (congrFun (zup_o (by omega)) 3)))) dX2_become_33 ?_
  refine z_put (ce' := cC cy ad (zup (zup (zset (zup al (10 + i) 0 (al (10 + k) 0)) (17 + i) (va_cpy ((zup al (10 + i) 0 (al (10 + k) 0)) (17 + k)) ((zup al (10 + i) 0 (al (10 + k) 0)) (17 + i)) 0 0 8)) (10 + i) 2 (al (10 + k) 2)) (10 + i) 3 (al (10 + k) 3)) ex) (C := RX2) (T := TX2) (N := 5) (ci := 2) S hE hW hi2 tyX2 tyX2_ok nmX2 rfl (Nat.lt_of_lt_of_le (kC_s hi) hn) (cC_s (i := i) hi) 3 (by decide) rfl f15 rfl rfl (Nat.le_of_ble_eq_true rfl) (pC_s (i := i) hi (by decide)) (fun j h => cC_o h) dX2_become_36 (fun H locs hW => ?_)
  refine lv_aload_n hx hb dX2_become_39 rfl (lv_at hl 0 rfl) ?_
  refine lv_aload_n hx hb dX2_become_40 rfl (lv_at hl 1 rfl) ?_
  refine z_get (C := RX2) (T := TX2) (N := 5) (ci := 2) S hE hW hi2 rfl (Nat.lt_of_lt_of_le (kC_s hk) hn) (cC_s (i := k) hk) 4 (by decide) rfl f19 (v := .int (al (10 + k) 4)) (congrArg (fun z => some (Value.int z)) ((congrFun (zup_o (by omega)) 4).trans ((congrFun (zup_o (by omega)) 4).trans ((congrFun (zset_o (by omega)) 4).trans (congrFun (zup_o (by omega)) 4))))) dX2_become_41 ?_
  refine z_put (ce' := cC cy ad (zup (zup (zup (zset (zup al (10 + i) 0 (al (10 + k) 0)) (17 + i) (va_cpy ((zup al (10 + i) 0 (al (10 + k) 0)) (17 + k)) ((zup al (10 + i) 0 (al (10 + k) 0)) (17 + i)) 0 0 8)) (10 + i) 2 (al (10 + k) 2)) (10 + i) 3 (al (10 + k) 3)) (10 + i) 4 (al (10 + k) 4)) ex) (C := RX2) (T := TX2) (N := 5) (ci := 2) S hE hW hi2 tyX2 tyX2_ok nmX2 rfl (Nat.lt_of_lt_of_le (kC_s hi) hn) (cC_s (i := i) hi) 4 (by decide) rfl f19 rfl rfl (Nat.le_of_ble_eq_true rfl) (pC_s (i := i) hi (by decide)) (fun j h => cC_o h) dX2_become_44 (fun H locs hW => ?_)
  exact ze_v S hW hr hlk () (congrArg (fun z => cC cy ad z ex) (by unfold becomeS; rw [zup_o (show 17 + k ≠ 10 + i by omega), zup_o (show 17 + i ≠ 10 + i by omega)])) trivial (Nat.le_of_ble_eq_true rfl) (Nat.le_of_ble_eq_true rfl) dX2_become_47
set_option maxHeartbeats 4000000 in
set_option maxRecDepth 100000 in
theorem cX1_become_ok (l : Launch) (D : va_G) (n : Nat) (ad cy sa : Nat → Nat) (sz : Nat) (hn : 28 ≤ n) (al : Nat → Nat → Int32) (ex : Nat → va_E) (sh : Nat) (hsh : sh < 2) (k : Nat) (hk : k < 2) (hik : sh ≠ k) : Met l yX1_become wsX1_become ({ frames := 1, cells := 0, slots := 0, locals := 60 }) (PW D n ad cy sa sz (cC cy ad al ex) [.ref (ad (6 + sh)), .ref (ad (6 + k))]) (QDv D n ad sz (cC cy ad (becomeH al sh k) ex)) 0 0 (Acc n ad sz) := by
  refine zs_met (cc := cX1_become) (maxL := 2) (ret := none) (own := RX1) (by decide) rfl rfl (Nat.le_of_ble_eq_true rfl) ?_
  intro p e s m args below meth c ls S hE hW hr hlk hsz hav hl
  subst hsz
  have hx := S.1
  have hb := S.2.1
  have hown := S.2.2.2.1
  have hts := S.2.2.2.2
  have hl : lv_has ls 2 [(0, .ref (ad (6 + sh))), (1, .ref (ad (6 + k)))] := hl
  have f9 := hts (.fieldLink RX1 9 "PumiceSledge$Shore" "sacks" "[I") (by decide +kernel)
  have hi1 : ∀ w ∈ wsX10, w ∈ wsX1_become := by decide +kernel
  have l15 := hts (.methodLink RX1 15 arraycopyName) (by decide +kernel)
  have ac_nat := hts (.native arraycopyName) (by decide +kernel)
  have ac_st := hts (.static arraycopyName) (by decide +kernel)
  have ac_in := hts (.initialized "java/lang/System") (by decide +kernel)
  have f21 := hts (.fieldLink RX1 21 "PumiceSledge$Shore" "lost" "I") (by decide +kernel)
  refine lv_aload_n hx hb dX1_become_0 rfl (lv_at hl 1 rfl) ?_
  refine z_get (C := RX1) (T := TX1) (N := 2) (ci := 1) S hE hW hi1 rfl (Nat.lt_of_lt_of_le (kC_h hk) hn) (cC_h (i := k) hk) 0 (by decide) rfl f9 (v := .ref (ad (8 + k))) rfl dX1_become_1 ?_
  refine lv_iconst (v := 0) hx hb dX1_become_4 (by decide) ?_
  refine lv_aload_n hx hb dX1_become_5 rfl (lv_at hl 0 rfl) ?_
  refine z_get (C := RX1) (T := TX1) (N := 2) (ci := 1) S hE hW hi1 rfl (Nat.lt_of_lt_of_le (kC_h hsh) hn) (cC_h (i := sh) hsh) 0 (by decide) rfl f9 (v := .ref (ad (8 + sh))) rfl dX1_become_6 ?_
  refine lv_iconst (v := 0) hx hb dX1_become_9 (by decide) ?_
  refine lv_iconst (v := 3) hx hb dX1_become_10 (by decide) ?_
  refine z_copy (ce' := cC cy ad (zset al (8 + sh) (va_cpy (al (8 + k)) (al (8 + sh)) 0 0 3)) ex) (N := 3) S hE hW hl.1 (Nat.lt_of_lt_of_le (kC_hs hk) hn) (Nat.lt_of_lt_of_le (kC_hs hsh) hn) (cC_hs (i := k) hk) (cC_hs (i := sh) hsh) (by decide) (by decide) (by decide) rfl l15 ac_nat ac_st ac_in ⟨Nat.le_of_ble_eq_true rfl, Nat.le_of_ble_eq_true rfl⟩ (qC_hs (i := sh) hsh) (fun j h => qC_o h) dX1_become_11 (fun H locs hW => ?_)
  refine lv_aload_n hx hb dX1_become_14 rfl (lv_at hl 0 rfl) ?_
  refine lv_aload_n hx hb dX1_become_15 rfl (lv_at hl 1 rfl) ?_
  refine z_get (C := RX1) (T := TX1) (N := 2) (ci := 1) S hE hW hi1 rfl (Nat.lt_of_lt_of_le (kC_h hk) hn) (cC_h (i := k) hk) 1 (by decide) rfl f21 (v := .int (al (6 + k) 1)) (congrArg (fun z => some (Value.int z)) (congrFun (zset_o (by omega)) 1)) dX1_become_16 ?_
  refine z_put (ce' := cC cy ad (zup (zset al (8 + sh) (va_cpy (al (8 + k)) (al (8 + sh)) 0 0 3)) (6 + sh) 1 (al (6 + k) 1)) ex) (C := RX1) (T := TX1) (N := 2) (ci := 1) S hE hW hi1 tyX1 tyX1_ok nmX1 rfl (Nat.lt_of_lt_of_le (kC_h hsh) hn) (cC_h (i := sh) hsh) 1 (by decide) rfl f21 rfl rfl (Nat.le_of_ble_eq_true rfl) (pC_h (i := sh) hsh) (fun j h => cC_o h) dX1_become_19 (fun H locs hW => ?_)
  exact ze_v S hW hr hlk () (congrArg (fun z => cC cy ad z ex) (rfl)) trivial (Nat.le_of_ble_eq_true rfl) (Nat.le_of_ble_eq_true rfl) dX1_become_22
end
