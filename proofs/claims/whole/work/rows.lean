section
-- ===== PART A: goes FIRST, ahead of the names: the tables' words, and 'selects' of the private methods out of them =====
/-- a private method of a class that the tables say can be made, by its rows of tables_1 -/
def lw_okq (q : MethodName × Nat) : Prop := (q.1.cls ≠ "java/lang/invoke/MethodHandle" ∧ q.1.cls ≠ "java/lang/invoke/VarHandle") ∧ Cond.instantiable q.1.cls q.2 ∈ tables_1 ∧ Cond.privateMethod q.1 ∈ tables_1 ∧ Cond.instanceMethod q.1 ∈ tables_1
theorem lw_p0 : lw_okq (⟨"AppletFirewall", "admit", "(LAppletFirewall$Instruction;)I"⟩, 9) := ⟨⟨by decide +kernel, by decide +kernel⟩, List.mem_of_getElem? (i := 9) (by decide +kernel), List.mem_of_getElem? (i := 101) (by decide +kernel), List.mem_of_getElem? (i := 102) (by decide +kernel)⟩
theorem lw_p1 : lw_okq (⟨"AppletFirewall", "perform", "(LAppletFirewall$Instruction;)I"⟩, 9) := ⟨⟨by decide +kernel, by decide +kernel⟩, List.mem_of_getElem? (i := 9) (by decide +kernel), List.mem_of_getElem? (i := 142) (by decide +kernel), List.mem_of_getElem? (i := 143) (by decide +kernel)⟩
theorem lw_p2 : lw_okq (⟨"AppletFirewall", "select", "()I"⟩, 9) := ⟨⟨by decide +kernel, by decide +kernel⟩, List.mem_of_getElem? (i := 9) (by decide +kernel), List.mem_of_getElem? (i := 154) (by decide +kernel), List.mem_of_getElem? (i := 155) (by decide +kernel)⟩
theorem lw_p3 : lw_okq (⟨"AppletFirewall", "respond", "(II)I"⟩, 9) := ⟨⟨by decide +kernel, by decide +kernel⟩, List.mem_of_getElem? (i := 9) (by decide +kernel), List.mem_of_getElem? (i := 184) (by decide +kernel), List.mem_of_getElem? (i := 185) (by decide +kernel)⟩
theorem lw_p4 : lw_okq (⟨"AppletFirewall", "verify", "()I"⟩, 9) := ⟨⟨by decide +kernel, by decide +kernel⟩, List.mem_of_getElem? (i := 9) (by decide +kernel), List.mem_of_getElem? (i := 192) (by decide +kernel), List.mem_of_getElem? (i := 193) (by decide +kernel)⟩
theorem lw_p5 : lw_okq (⟨"AppletFirewall", "payloadIsSecret", "()Z"⟩, 9) := ⟨⟨by decide +kernel, by decide +kernel⟩, List.mem_of_getElem? (i := 9) (by decide +kernel), List.mem_of_getElem? (i := 197) (by decide +kernel), List.mem_of_getElem? (i := 198) (by decide +kernel)⟩
theorem lw_p6 : lw_okq (⟨"AppletFirewall", "storePayload", "(I)I"⟩, 9) := ⟨⟨by decide +kernel, by decide +kernel⟩, List.mem_of_getElem? (i := 9) (by decide +kernel), List.mem_of_getElem? (i := 204) (by decide +kernel), List.mem_of_getElem? (i := 205) (by decide +kernel)⟩
theorem lw_p7 : lw_okq (⟨"AppletFirewall", "store", "(I[III)I"⟩, 9) := ⟨⟨by decide +kernel, by decide +kernel⟩, List.mem_of_getElem? (i := 9) (by decide +kernel), List.mem_of_getElem? (i := 212) (by decide +kernel), List.mem_of_getElem? (i := 213) (by decide +kernel)⟩
theorem lw_p8 : lw_okq (⟨"AppletFirewall", "unblock", "()I"⟩, 9) := ⟨⟨by decide +kernel, by decide +kernel⟩, List.mem_of_getElem? (i := 9) (by decide +kernel), List.mem_of_getElem? (i := 225) (by decide +kernel), List.mem_of_getElem? (i := 226) (by decide +kernel)⟩
theorem lw_p9 : lw_okq (⟨"AppletFirewall", "read", "()I"⟩, 9) := ⟨⟨by decide +kernel, by decide +kernel⟩, List.mem_of_getElem? (i := 9) (by decide +kernel), List.mem_of_getElem? (i := 229) (by decide +kernel), List.mem_of_getElem? (i := 230) (by decide +kernel)⟩
theorem lw_p10 : lw_okq (⟨"AppletFirewall", "update", "()I"⟩, 9) := ⟨⟨by decide +kernel, by decide +kernel⟩, List.mem_of_getElem? (i := 9) (by decide +kernel), List.mem_of_getElem? (i := 240) (by decide +kernel), List.mem_of_getElem? (i := 241) (by decide +kernel)⟩
theorem lw_p11 : lw_okq (⟨"AppletFirewall", "begin", "()I"⟩, 9) := ⟨⟨by decide +kernel, by decide +kernel⟩, List.mem_of_getElem? (i := 9) (by decide +kernel), List.mem_of_getElem? (i := 244) (by decide +kernel), List.mem_of_getElem? (i := 245) (by decide +kernel)⟩
theorem lw_p12 : lw_okq (⟨"AppletFirewall", "end", "()I"⟩, 9) := ⟨⟨by decide +kernel, by decide +kernel⟩, List.mem_of_getElem? (i := 9) (by decide +kernel), List.mem_of_getElem? (i := 248) (by decide +kernel), List.mem_of_getElem? (i := 249) (by decide +kernel)⟩
theorem lw_p13 : lw_okq (⟨"AppletFirewall", "grant", "()I"⟩, 9) := ⟨⟨by decide +kernel, by decide +kernel⟩, List.mem_of_getElem? (i := 9) (by decide +kernel), List.mem_of_getElem? (i := 252) (by decide +kernel), List.mem_of_getElem? (i := 253) (by decide +kernel)⟩
theorem lw_p14 : lw_okq (⟨"AppletFirewall", "ownerOf", "(I)I"⟩, 9) := ⟨⟨by decide +kernel, by decide +kernel⟩, List.mem_of_getElem? (i := 9) (by decide +kernel), List.mem_of_getElem? (i := 256) (by decide +kernel), List.mem_of_getElem? (i := 257) (by decide +kernel)⟩
theorem lw_p15 : lw_okq (⟨"AppletFirewall", "shareByte", "(II)I"⟩, 9) := ⟨⟨by decide +kernel, by decide +kernel⟩, List.mem_of_getElem? (i := 9) (by decide +kernel), List.mem_of_getElem? (i := 260) (by decide +kernel), List.mem_of_getElem? (i := 261) (by decide +kernel)⟩
def lw_privs_1 : List (MethodName × Nat) := [(⟨"AppletFirewall", "admit", "(LAppletFirewall$Instruction;)I"⟩, 9), (⟨"AppletFirewall", "perform", "(LAppletFirewall$Instruction;)I"⟩, 9), (⟨"AppletFirewall", "select", "()I"⟩, 9), (⟨"AppletFirewall", "respond", "(II)I"⟩, 9), (⟨"AppletFirewall", "verify", "()I"⟩, 9), (⟨"AppletFirewall", "payloadIsSecret", "()Z"⟩, 9), (⟨"AppletFirewall", "storePayload", "(I)I"⟩, 9), (⟨"AppletFirewall", "store", "(I[III)I"⟩, 9), (⟨"AppletFirewall", "unblock", "()I"⟩, 9), (⟨"AppletFirewall", "read", "()I"⟩, 9), (⟨"AppletFirewall", "update", "()I"⟩, 9), (⟨"AppletFirewall", "begin", "()I"⟩, 9), (⟨"AppletFirewall", "end", "()I"⟩, 9), (⟨"AppletFirewall", "grant", "()I"⟩, 9), (⟨"AppletFirewall", "ownerOf", "(I)I"⟩, 9), (⟨"AppletFirewall", "shareByte", "(II)I"⟩, 9)]
theorem lw_r1 : ∀ q ∈ lw_privs_1, lw_okq q := List.forall_mem_cons.mpr ⟨lw_p0, List.forall_mem_cons.mpr ⟨lw_p1, List.forall_mem_cons.mpr ⟨lw_p2, List.forall_mem_cons.mpr ⟨lw_p3, List.forall_mem_cons.mpr ⟨lw_p4, List.forall_mem_cons.mpr ⟨lw_p5, List.forall_mem_cons.mpr ⟨lw_p6, List.forall_mem_cons.mpr ⟨lw_p7, List.forall_mem_cons.mpr ⟨lw_p8, List.forall_mem_cons.mpr ⟨lw_p9, List.forall_mem_cons.mpr ⟨lw_p10, List.forall_mem_cons.mpr ⟨lw_p11, List.forall_mem_cons.mpr ⟨lw_p12, List.forall_mem_cons.mpr ⟨lw_p13, List.forall_mem_cons.mpr ⟨lw_p14, List.forall_mem_cons.mpr ⟨lw_p15, fun _ h => absurd h List.not_mem_nil⟩⟩⟩⟩⟩⟩⟩⟩⟩⟩⟩⟩⟩⟩⟩⟩
theorem lw_p16 : lw_okq (⟨"AppletFirewall", "revoke", "()I"⟩, 9) := ⟨⟨by decide +kernel, by decide +kernel⟩, List.mem_of_getElem? (i := 9) (by decide +kernel), List.mem_of_getElem? (i := 267) (by decide +kernel), List.mem_of_getElem? (i := 268) (by decide +kernel)⟩
theorem lw_p17 : lw_okq (⟨"AppletFirewall", "readShared", "()I"⟩, 9) := ⟨⟨by decide +kernel, by decide +kernel⟩, List.mem_of_getElem? (i := 9) (by decide +kernel), List.mem_of_getElem? (i := 271) (by decide +kernel), List.mem_of_getElem? (i := 272) (by decide +kernel)⟩
theorem lw_p18 : lw_okq (⟨"AppletFirewall", "clientOf", "(I)I"⟩, 9) := ⟨⟨by decide +kernel, by decide +kernel⟩, List.mem_of_getElem? (i := 9) (by decide +kernel), List.mem_of_getElem? (i := 275) (by decide +kernel), List.mem_of_getElem? (i := 276) (by decide +kernel)⟩
theorem lw_p19 : lw_okq (⟨"AppletFirewall", "sharedPlace", "(II)I"⟩, 9) := ⟨⟨by decide +kernel, by decide +kernel⟩, List.mem_of_getElem? (i := 9) (by decide +kernel), List.mem_of_getElem? (i := 279) (by decide +kernel), List.mem_of_getElem? (i := 280) (by decide +kernel)⟩
theorem lw_p20 : lw_okq (⟨"AppletFirewall", "updateShared", "()I"⟩, 9) := ⟨⟨by decide +kernel, by decide +kernel⟩, List.mem_of_getElem? (i := 9) (by decide +kernel), List.mem_of_getElem? (i := 283) (by decide +kernel), List.mem_of_getElem? (i := 284) (by decide +kernel)⟩
theorem lw_p21 : lw_okq (⟨"AppletFirewall", "switchOff", "()V"⟩, 9) := ⟨⟨by decide +kernel, by decide +kernel⟩, List.mem_of_getElem? (i := 9) (by decide +kernel), List.mem_of_getElem? (i := 291) (by decide +kernel), List.mem_of_getElem? (i := 292) (by decide +kernel)⟩
theorem lw_p22 : lw_okq (⟨"AppletFirewallModel", "forget", "()V"⟩, 16) := ⟨⟨by decide +kernel, by decide +kernel⟩, List.mem_of_getElem? (i := 359) (by decide +kernel), List.mem_of_getElem? (i := 422) (by decide +kernel), List.mem_of_getElem? (i := 423) (by decide +kernel)⟩
theorem lw_p23 : lw_okq (⟨"AppletFirewallModel", "undo", "()Z"⟩, 16) := ⟨⟨by decide +kernel, by decide +kernel⟩, List.mem_of_getElem? (i := 359) (by decide +kernel), List.mem_of_getElem? (i := 426) (by decide +kernel), List.mem_of_getElem? (i := 427) (by decide +kernel)⟩
theorem lw_p24 : lw_okq (⟨"AppletFirewallModel", "several", "(I)Z"⟩, 16) := ⟨⟨by decide +kernel, by decide +kernel⟩, List.mem_of_getElem? (i := 359) (by decide +kernel), List.mem_of_getElem? (i := 430) (by decide +kernel), List.mem_of_getElem? (i := 431) (by decide +kernel)⟩
theorem lw_p25 : lw_okq (⟨"AppletFirewallModel", "write", "()Z"⟩, 16) := ⟨⟨by decide +kernel, by decide +kernel⟩, List.mem_of_getElem? (i := 359) (by decide +kernel), List.mem_of_getElem? (i := 434) (by decide +kernel), List.mem_of_getElem? (i := 435) (by decide +kernel)⟩
theorem lw_p26 : lw_okq (⟨"AppletFirewallModel", "refuse", "()I"⟩, 16) := ⟨⟨by decide +kernel, by decide +kernel⟩, List.mem_of_getElem? (i := 359) (by decide +kernel), List.mem_of_getElem? (i := 447) (by decide +kernel), List.mem_of_getElem? (i := 448) (by decide +kernel)⟩
theorem lw_p27 : lw_okq (⟨"AppletFirewallModel", "shape", "()I"⟩, 16) := ⟨⟨by decide +kernel, by decide +kernel⟩, List.mem_of_getElem? (i := 359) (by decide +kernel), List.mem_of_getElem? (i := 451) (by decide +kernel), List.mem_of_getElem? (i := 452) (by decide +kernel)⟩
theorem lw_p28 : lw_okq (⟨"AppletFirewallModel", "lengthWrong", "(I)Z"⟩, 16) := ⟨⟨by decide +kernel, by decide +kernel⟩, List.mem_of_getElem? (i := 359) (by decide +kernel), List.mem_of_getElem? (i := 464) (by decide +kernel), List.mem_of_getElem? (i := 465) (by decide +kernel)⟩
theorem lw_p29 : lw_okq (⟨"AppletFirewallModel", "placesWrong", "(I)Z"⟩, 16) := ⟨⟨by decide +kernel, by decide +kernel⟩, List.mem_of_getElem? (i := 359) (by decide +kernel), List.mem_of_getElem? (i := 468) (by decide +kernel), List.mem_of_getElem? (i := 469) (by decide +kernel)⟩
theorem lw_p30 : lw_okq (⟨"AppletFirewallModel", "carry", "(III)I"⟩, 16) := ⟨⟨by decide +kernel, by decide +kernel⟩, List.mem_of_getElem? (i := 359) (by decide +kernel), List.mem_of_getElem? (i := 472) (by decide +kernel), List.mem_of_getElem? (i := 473) (by decide +kernel)⟩
theorem lw_p31 : lw_okq (⟨"AppletFirewallModel", "select", "(I)I"⟩, 16) := ⟨⟨by decide +kernel, by decide +kernel⟩, List.mem_of_getElem? (i := 359) (by decide +kernel), List.mem_of_getElem? (i := 476) (by decide +kernel), List.mem_of_getElem? (i := 477) (by decide +kernel)⟩
def lw_privs_2 : List (MethodName × Nat) := [(⟨"AppletFirewall", "revoke", "()I"⟩, 9), (⟨"AppletFirewall", "readShared", "()I"⟩, 9), (⟨"AppletFirewall", "clientOf", "(I)I"⟩, 9), (⟨"AppletFirewall", "sharedPlace", "(II)I"⟩, 9), (⟨"AppletFirewall", "updateShared", "()I"⟩, 9), (⟨"AppletFirewall", "switchOff", "()V"⟩, 9), (⟨"AppletFirewallModel", "forget", "()V"⟩, 16), (⟨"AppletFirewallModel", "undo", "()Z"⟩, 16), (⟨"AppletFirewallModel", "several", "(I)Z"⟩, 16), (⟨"AppletFirewallModel", "write", "()Z"⟩, 16), (⟨"AppletFirewallModel", "refuse", "()I"⟩, 16), (⟨"AppletFirewallModel", "shape", "()I"⟩, 16), (⟨"AppletFirewallModel", "lengthWrong", "(I)Z"⟩, 16), (⟨"AppletFirewallModel", "placesWrong", "(I)Z"⟩, 16), (⟨"AppletFirewallModel", "carry", "(III)I"⟩, 16), (⟨"AppletFirewallModel", "select", "(I)I"⟩, 16)]
theorem lw_r2 : ∀ q ∈ lw_privs_2, lw_okq q := List.forall_mem_cons.mpr ⟨lw_p16, List.forall_mem_cons.mpr ⟨lw_p17, List.forall_mem_cons.mpr ⟨lw_p18, List.forall_mem_cons.mpr ⟨lw_p19, List.forall_mem_cons.mpr ⟨lw_p20, List.forall_mem_cons.mpr ⟨lw_p21, List.forall_mem_cons.mpr ⟨lw_p22, List.forall_mem_cons.mpr ⟨lw_p23, List.forall_mem_cons.mpr ⟨lw_p24, List.forall_mem_cons.mpr ⟨lw_p25, List.forall_mem_cons.mpr ⟨lw_p26, List.forall_mem_cons.mpr ⟨lw_p27, List.forall_mem_cons.mpr ⟨lw_p28, List.forall_mem_cons.mpr ⟨lw_p29, List.forall_mem_cons.mpr ⟨lw_p30, List.forall_mem_cons.mpr ⟨lw_p31, fun _ h => absurd h List.not_mem_nil⟩⟩⟩⟩⟩⟩⟩⟩⟩⟩⟩⟩⟩⟩⟩⟩
theorem lw_p32 : lw_okq (⟨"AppletFirewallModel", "verify", "()I"⟩, 16) := ⟨⟨by decide +kernel, by decide +kernel⟩, List.mem_of_getElem? (i := 359) (by decide +kernel), List.mem_of_getElem? (i := 481) (by decide +kernel), List.mem_of_getElem? (i := 482) (by decide +kernel)⟩
theorem lw_p33 : lw_okq (⟨"AppletFirewallModel", "store", "(II)I"⟩, 16) := ⟨⟨by decide +kernel, by decide +kernel⟩, List.mem_of_getElem? (i := 359) (by decide +kernel), List.mem_of_getElem? (i := 485) (by decide +kernel), List.mem_of_getElem? (i := 486) (by decide +kernel)⟩
theorem lw_p34 : lw_okq (⟨"AppletFirewallModel", "change", "(II)Z"⟩, 16) := ⟨⟨by decide +kernel, by decide +kernel⟩, List.mem_of_getElem? (i := 359) (by decide +kernel), List.mem_of_getElem? (i := 489) (by decide +kernel), List.mem_of_getElem? (i := 490) (by decide +kernel)⟩
theorem lw_p35 : lw_okq (⟨"AppletFirewallModel", "settle", "()Z"⟩, 16) := ⟨⟨by decide +kernel, by decide +kernel⟩, List.mem_of_getElem? (i := 359) (by decide +kernel), List.mem_of_getElem? (i := 493) (by decide +kernel), List.mem_of_getElem? (i := 494) (by decide +kernel)⟩
theorem lw_p36 : lw_okq (⟨"AppletFirewallModel", "unblock", "(I)I"⟩, 16) := ⟨⟨by decide +kernel, by decide +kernel⟩, List.mem_of_getElem? (i := 359) (by decide +kernel), List.mem_of_getElem? (i := 497) (by decide +kernel), List.mem_of_getElem? (i := 498) (by decide +kernel)⟩
theorem lw_p37 : lw_okq (⟨"AppletFirewallModel", "read", "(III)I"⟩, 16) := ⟨⟨by decide +kernel, by decide +kernel⟩, List.mem_of_getElem? (i := 359) (by decide +kernel), List.mem_of_getElem? (i := 501) (by decide +kernel), List.mem_of_getElem? (i := 502) (by decide +kernel)⟩
theorem lw_p38 : lw_okq (⟨"AppletFirewallModel", "begin", "()I"⟩, 16) := ⟨⟨by decide +kernel, by decide +kernel⟩, List.mem_of_getElem? (i := 359) (by decide +kernel), List.mem_of_getElem? (i := 505) (by decide +kernel), List.mem_of_getElem? (i := 506) (by decide +kernel)⟩
theorem lw_p39 : lw_okq (⟨"AppletFirewallModel", "end", "(I)I"⟩, 16) := ⟨⟨by decide +kernel, by decide +kernel⟩, List.mem_of_getElem? (i := 359) (by decide +kernel), List.mem_of_getElem? (i := 509) (by decide +kernel), List.mem_of_getElem? (i := 510) (by decide +kernel)⟩
theorem lw_p40 : lw_okq (⟨"AppletFirewallModel", "grant", "(I)I"⟩, 16) := ⟨⟨by decide +kernel, by decide +kernel⟩, List.mem_of_getElem? (i := 359) (by decide +kernel), List.mem_of_getElem? (i := 513) (by decide +kernel), List.mem_of_getElem? (i := 514) (by decide +kernel)⟩
theorem lw_p41 : lw_okq (⟨"AppletFirewallModel", "shared", "(III)I"⟩, 16) := ⟨⟨by decide +kernel, by decide +kernel⟩, List.mem_of_getElem? (i := 359) (by decide +kernel), List.mem_of_getElem? (i := 517) (by decide +kernel), List.mem_of_getElem? (i := 518) (by decide +kernel)⟩
def lw_privs_3 : List (MethodName × Nat) := [(⟨"AppletFirewallModel", "verify", "()I"⟩, 16), (⟨"AppletFirewallModel", "store", "(II)I"⟩, 16), (⟨"AppletFirewallModel", "change", "(II)Z"⟩, 16), (⟨"AppletFirewallModel", "settle", "()Z"⟩, 16), (⟨"AppletFirewallModel", "unblock", "(I)I"⟩, 16), (⟨"AppletFirewallModel", "read", "(III)I"⟩, 16), (⟨"AppletFirewallModel", "begin", "()I"⟩, 16), (⟨"AppletFirewallModel", "end", "(I)I"⟩, 16), (⟨"AppletFirewallModel", "grant", "(I)I"⟩, 16), (⟨"AppletFirewallModel", "shared", "(III)I"⟩, 16)]
theorem lw_r3 : ∀ q ∈ lw_privs_3, lw_okq q := List.forall_mem_cons.mpr ⟨lw_p32, List.forall_mem_cons.mpr ⟨lw_p33, List.forall_mem_cons.mpr ⟨lw_p34, List.forall_mem_cons.mpr ⟨lw_p35, List.forall_mem_cons.mpr ⟨lw_p36, List.forall_mem_cons.mpr ⟨lw_p37, List.forall_mem_cons.mpr ⟨lw_p38, List.forall_mem_cons.mpr ⟨lw_p39, List.forall_mem_cons.mpr ⟨lw_p40, List.forall_mem_cons.mpr ⟨lw_p41, fun _ h => absurd h List.not_mem_nil⟩⟩⟩⟩⟩⟩⟩⟩⟩⟩
def lw_privs : List (MethodName × Nat) := lw_privs_1 ++ (lw_privs_2 ++ (lw_privs_3))
def lw_tbl : List Cond := k2_sels lw_privs ++ tables_1
theorem lw_privs_ok : ∀ q ∈ lw_privs, lw_okq q := by
  show ∀ q ∈ lw_privs_1 ++ (lw_privs_2 ++ (lw_privs_3)), lw_okq q
  exact List.forall_mem_append.mpr ⟨lw_r1, List.forall_mem_append.mpr ⟨lw_r2, lw_r3⟩⟩
end
section
-- the words that every state of a run keeps
def lw_g : List Cond := lw_tbl.filter goodWord
abbrev R_A : String := "AppletFirewall"
def F_A : u_T := fun k => match k with
  | 0 => ("AppletFirewall", "memory", "LAppletFirewall$Memory;", true)
  | 1 => ("AppletFirewall", "input", "LAppletFirewall$Input;", true)
  | 2 => ("AppletFirewall", "answer", "[I", true)
  | 3 => ("AppletFirewall", "grantRow", "[I", true)
  | 4 => ("AppletFirewall", "answerLength", "I", false)
  | 5 => ("AppletFirewall", "on", "Z", false)
  | 6 => ("AppletFirewall", "selected", "I", false)
  | 7 => ("AppletFirewall", "verified", "Z", false)
  | _ => ("AppletFirewall", "open", "Z", false)
def t_A : Nat → FieldType := fun k => match k with
  | 0 => .object "AppletFirewall$Memory"
  | 1 => .object "AppletFirewall$Input"
  | 2 => .array .int
  | 3 => .array .int
  | 4 => .int
  | 5 => .boolean
  | 6 => .int
  | 7 => .boolean
  | _ => .boolean
theorem n_A : ∀ a, a < 9 → ∀ b, b < 9 → a ≠ b → (F_A a).2.1 ≠ (F_A b).2.1 := by decide +kernel
theorem t_A_ok : ∀ k, k < 9 → parseFieldDescriptor (F_A k).2.2.1 = some (t_A k) := by decide +kernel
theorem in_A : ∀ w ∈ u_ws R_A F_A 9, w ∈ lw_g := by decide +kernel
abbrev R_M : String := "AppletFirewall$Memory"
def F_M : u_T := fun k => match k with
  | 0 => ("AppletFirewall$Memory", "cells", "[I", true)
  | 1 => ("AppletFirewall$Memory", "written", "I", false)
  | 2 => ("AppletFirewall$Memory", "failed", "I", false)
  | _ => ("AppletFirewall$Memory", "fuse", "I", false)
def t_M : Nat → FieldType := fun k => match k with
  | 0 => .array .int
  | 1 => .int
  | 2 => .int
  | _ => .int
theorem n_M : ∀ a, a < 4 → ∀ b, b < 4 → a ≠ b → (F_M a).2.1 ≠ (F_M b).2.1 := by decide +kernel
theorem t_M_ok : ∀ k, k < 4 → parseFieldDescriptor (F_M k).2.2.1 = some (t_M k) := by decide +kernel
theorem in_M : ∀ w ∈ u_ws R_M F_M 4, w ∈ lw_g := by decide +kernel
abbrev R_I : String := "AppletFirewall$Input"
def F_I : u_T := fun k => match k with
  | 0 => ("AppletFirewall$Input", "bytes", "[I", true)
  | _ => ("AppletFirewall$Input", "count", "I", false)
def t_I : Nat → FieldType := fun k => match k with
  | 0 => .array .int
  | _ => .int
theorem n_I : ∀ a, a < 2 → ∀ b, b < 2 → a ≠ b → (F_I a).2.1 ≠ (F_I b).2.1 := by decide +kernel
theorem t_I_ok : ∀ k, k < 2 → parseFieldDescriptor (F_I k).2.2.1 = some (t_I k) := by decide +kernel
theorem in_I : ∀ w ∈ u_ws R_I F_I 2, w ∈ lw_g := by decide +kernel
abbrev R_Rf : String := "AppletFirewallModel"
def F_Rf : u_T := fun k => match k with
  | 0 => ("AppletFirewallModel", "memory", "[I", true)
  | 1 => ("AppletFirewallModel", "before", "[I", true)
  | 2 => ("AppletFirewallModel", "left", "[I", true)
  | 3 => ("AppletFirewallModel", "count", "I", false)
  | 4 => ("AppletFirewallModel", "done", "I", false)
  | 5 => ("AppletFirewallModel", "failed", "I", false)
  | 6 => ("AppletFirewallModel", "armed", "Z", false)
  | 7 => ("AppletFirewallModel", "fuse", "I", false)
  | 8 => ("AppletFirewallModel", "on", "Z", false)
  | 9 => ("AppletFirewallModel", "selected", "I", false)
  | 10 => ("AppletFirewallModel", "verified", "Z", false)
  | 11 => ("AppletFirewallModel", "open", "Z", false)
  | 12 => ("AppletFirewallModel", "in", "[I", true)
  | 13 => ("AppletFirewallModel", "size", "I", false)
  | 14 => ("AppletFirewallModel", "out", "[I", true)
  | _ => ("AppletFirewallModel", "told", "I", false)
def t_Rf : Nat → FieldType := fun k => match k with
  | 0 => .array .int
  | 1 => .array .int
  | 2 => .array .int
  | 3 => .int
  | 4 => .int
  | 5 => .int
  | 6 => .boolean
  | 7 => .int
  | 8 => .boolean
  | 9 => .int
  | 10 => .boolean
  | 11 => .boolean
  | 12 => .array .int
  | 13 => .int
  | 14 => .array .int
  | _ => .int
theorem n_Rf : ∀ a, a < 16 → ∀ b, b < 16 → a ≠ b → (F_Rf a).2.1 ≠ (F_Rf b).2.1 := by decide +kernel
theorem t_Rf_ok : ∀ k, k < 16 → parseFieldDescriptor (F_Rf k).2.2.1 = some (t_Rf k) := by decide +kernel
theorem in_Rf : ∀ w ∈ u_ws R_Rf F_Rf 16, w ∈ lw_g := by decide +kernel
abbrev R_E : String := "AppletFirewall$Instruction"
abbrev vwCl : List vw_C := [(R_A, F_A, 9), (R_M, F_M, 4), (R_I, F_I, 2), (R_Rf, F_Rf, 16)]
abbrev b_M_init : ByteArray := prog_5_method_1_code
abbrev y_M_init : MethodName := ⟨"AppletFirewall$Memory", "<init>", "()V"⟩
abbrev w_M_init : List Cond := .code y_M_init b_M_init 2 none :: lw_g
abbrev b_M_at : ByteArray := prog_5_method_2_code
abbrev y_M_at : MethodName := ⟨"AppletFirewall$Memory", "at", "(I)I"⟩
abbrev w_M_at : List Cond := .code y_M_at b_M_at 2 (some .int) :: lw_g
abbrev b_M_count : ByteArray := prog_5_method_3_code
abbrev y_M_count : MethodName := ⟨"AppletFirewall$Memory", "count", "()I"⟩
abbrev w_M_count : List Cond := .code y_M_count b_M_count 1 (some .int) :: lw_g
abbrev b_M_written : ByteArray := prog_5_method_4_code
abbrev y_M_written : MethodName := ⟨"AppletFirewall$Memory", "written", "()I"⟩
abbrev w_M_written : List Cond := .code y_M_written b_M_written 1 (some .int) :: lw_g
abbrev b_M_failed : ByteArray := prog_5_method_5_code
abbrev y_M_failed : MethodName := ⟨"AppletFirewall$Memory", "failed", "()I"⟩
abbrev w_M_failed : List Cond := .code y_M_failed b_M_failed 1 (some .int) :: lw_g
abbrev b_M_arm : ByteArray := prog_5_method_6_code
abbrev y_M_arm : MethodName := ⟨"AppletFirewall$Memory", "arm", "(I)V"⟩
abbrev w_M_arm : List Cond := .code y_M_arm b_M_arm 2 none :: lw_g
abbrev b_M_write : ByteArray := prog_5_method_7_code
abbrev y_M_write : MethodName := ⟨"AppletFirewall$Memory", "write", "(II)Z"⟩
abbrev w_M_write : List Cond := .code y_M_write b_M_write 3 (some .boolean) :: lw_g
abbrev b_M_change : ByteArray := prog_5_method_8_code
abbrev y_M_change : MethodName := ⟨"AppletFirewall$Memory", "change", "(II)Z"⟩
abbrev w_M_change : List Cond := .code y_M_change b_M_change 4 (some .boolean) :: lw_g
abbrev b_M_settle : ByteArray := prog_5_method_10_code
abbrev y_M_settle : MethodName := ⟨"AppletFirewall$Memory", "settle", "()Z"⟩
abbrev w_M_settle : List Cond := .code y_M_settle b_M_settle 1 (some .boolean) :: lw_g
abbrev b_M_undo : ByteArray := prog_5_method_9_code
abbrev y_M_undo : MethodName := ⟨"AppletFirewall$Memory", "undo", "()Z"⟩
abbrev w_M_undo : List Cond := .code y_M_undo b_M_undo 3 (some .boolean) :: lw_g
abbrev b_I_init : ByteArray := prog_3_method_1_code
abbrev y_I_init : MethodName := ⟨"AppletFirewall$Input", "<init>", "()V"⟩
abbrev w_I_init : List Cond := .code y_I_init b_I_init 1 none :: lw_g
abbrev b_I_append : ByteArray := prog_3_method_2_code
abbrev y_I_append : MethodName := ⟨"AppletFirewall$Input", "append", "(JI)Z"⟩
abbrev w_I_append : List Cond := .code y_I_append b_I_append 5 (some .boolean) :: lw_g
abbrev b_I_clear : ByteArray := prog_3_method_3_code
abbrev y_I_clear : MethodName := ⟨"AppletFirewall$Input", "clear", "()V"⟩
abbrev w_I_clear : List Cond := .code y_I_clear b_I_clear 1 none :: lw_g
abbrev b_I_size : ByteArray := prog_3_method_4_code
abbrev y_I_size : MethodName := ⟨"AppletFirewall$Input", "size", "()I"⟩
abbrev w_I_size : List Cond := .code y_I_size b_I_size 1 (some .int) :: lw_g
abbrev b_I_lc : ByteArray := prog_3_method_10_code
abbrev y_I_lc : MethodName := ⟨"AppletFirewall$Input", "lc", "()I"⟩
abbrev w_I_lc : List Cond := .code y_I_lc b_I_lc 1 (some .int) :: lw_g
abbrev b_I_shape : ByteArray := prog_3_method_5_code
abbrev y_I_shape : MethodName := ⟨"AppletFirewall$Input", "shape", "()I"⟩
abbrev w_I_shape : List Cond := .code y_I_shape b_I_shape 1 (some .int) :: lw_g
abbrev b_I_cardClass : ByteArray := prog_3_method_6_code
abbrev y_I_cardClass : MethodName := ⟨"AppletFirewall$Input", "cardClass", "()I"⟩
abbrev w_I_cardClass : List Cond := .code y_I_cardClass b_I_cardClass 1 (some .int) :: lw_g
abbrev b_I_instruction : ByteArray := prog_3_method_7_code
abbrev y_I_instruction : MethodName := ⟨"AppletFirewall$Input", "instruction", "()I"⟩
abbrev w_I_instruction : List Cond := .code y_I_instruction b_I_instruction 1 (some .int) :: lw_g
abbrev b_I_p1 : ByteArray := prog_3_method_8_code
abbrev y_I_p1 : MethodName := ⟨"AppletFirewall$Input", "p1", "()I"⟩
abbrev w_I_p1 : List Cond := .code y_I_p1 b_I_p1 1 (some .int) :: lw_g
abbrev b_I_p2 : ByteArray := prog_3_method_9_code
abbrev y_I_p2 : MethodName := ⟨"AppletFirewall$Input", "p2", "()I"⟩
abbrev w_I_p2 : List Cond := .code y_I_p2 b_I_p2 1 (some .int) :: lw_g
abbrev b_I_le : ByteArray := prog_3_method_11_code
abbrev y_I_le : MethodName := ⟨"AppletFirewall$Input", "le", "()I"⟩
abbrev w_I_le : List Cond := .code y_I_le b_I_le 1 (some .int) :: lw_g
abbrev b_I_payload : ByteArray := prog_3_method_12_code
abbrev y_I_payload : MethodName := ⟨"AppletFirewall$Input", "payload", "(I)I"⟩
abbrev w_I_payload : List Cond := .code y_I_payload b_I_payload 2 (some .int) :: lw_g
abbrev b_I_row : ByteArray := prog_3_method_13_code
abbrev y_I_row : MethodName := ⟨"AppletFirewall$Input", "row", "()[I"⟩
abbrev w_I_row : List Cond := .code y_I_row b_I_row 1 (some (.array .int)) :: lw_g
abbrev b_A_init : ByteArray := prog_1_method_1_code
abbrev y_A_init : MethodName := ⟨"AppletFirewall", "<init>", "()V"⟩
abbrev w_A_init : List Cond := .code y_A_init b_A_init 1 none :: lw_g
abbrev b_A_doneIf : ByteArray := prog_1_method_34_code
abbrev y_A_doneIf : MethodName := ⟨"AppletFirewall", "doneIf", "(Z)I"⟩
abbrev w_A_doneIf : List Cond := .code y_A_doneIf b_A_doneIf 1 (some .int) :: lw_g
abbrev b_A_isApplet : ByteArray := prog_1_method_39_code
abbrev y_A_isApplet : MethodName := ⟨"AppletFirewall", "isApplet", "(I)Z"⟩
abbrev w_A_isApplet : List Cond := .code y_A_isApplet b_A_isApplet 1 (some .boolean) :: lw_g
abbrev b_A_dataPlace : ByteArray := prog_1_method_40_code
abbrev y_A_dataPlace : MethodName := ⟨"AppletFirewall", "dataPlace", "(II)I"⟩
abbrev w_A_dataPlace : List Cond := .code y_A_dataPlace b_A_dataPlace 2 (some .int) :: lw_g
abbrev b_A_secretPlace : ByteArray := prog_1_method_41_code
abbrev y_A_secretPlace : MethodName := ⟨"AppletFirewall", "secretPlace", "(I)I"⟩
abbrev w_A_secretPlace : List Cond := .code y_A_secretPlace b_A_secretPlace 1 (some .int) :: lw_g
abbrev b_A_triesPlace : ByteArray := prog_1_method_42_code
abbrev y_A_triesPlace : MethodName := ⟨"AppletFirewall", "triesPlace", "(I)I"⟩
abbrev w_A_triesPlace : List Cond := .code y_A_triesPlace b_A_triesPlace 1 (some .int) :: lw_g
abbrev b_A_sharePlace : ByteArray := prog_1_method_43_code
abbrev y_A_sharePlace : MethodName := ⟨"AppletFirewall", "sharePlace", "(I)I"⟩
abbrev w_A_sharePlace : List Cond := .code y_A_sharePlace b_A_sharePlace 1 (some .int) :: lw_g
abbrev b_A_put : ByteArray := prog_1_method_2_code
abbrev y_A_put : MethodName := ⟨"AppletFirewall", "put", "(JI)Z"⟩
abbrev w_A_put : List Cond := .code y_A_put b_A_put 4 (some .boolean) :: lw_g
abbrev b_A_waiting : ByteArray := prog_1_method_4_code
abbrev y_A_waiting : MethodName := ⟨"AppletFirewall", "waiting", "()I"⟩
abbrev w_A_waiting : List Cond := .code y_A_waiting b_A_waiting 1 (some .int) :: lw_g
abbrev b_A_length : ByteArray := prog_1_method_5_code
abbrev y_A_length : MethodName := ⟨"AppletFirewall", "length", "()I"⟩
abbrev w_A_length : List Cond := .code y_A_length b_A_length 1 (some .int) :: lw_g
abbrev b_A_response : ByteArray := prog_1_method_6_code
abbrev y_A_response : MethodName := ⟨"AppletFirewall", "response", "(I)I"⟩
abbrev w_A_response : List Cond := .code y_A_response b_A_response 2 (some .int) :: lw_g
abbrev b_A_tear : ByteArray := prog_1_method_7_code
abbrev y_A_tear : MethodName := ⟨"AppletFirewall", "tear", "(I)Z"⟩
abbrev w_A_tear : List Cond := .code y_A_tear b_A_tear 2 (some .boolean) :: lw_g
abbrev b_A_switchOff : ByteArray := prog_1_method_16_code
abbrev y_A_switchOff : MethodName := ⟨"AppletFirewall", "switchOff", "()V"⟩
abbrev w_A_switchOff : List Cond := .code y_A_switchOff b_A_switchOff 1 none :: lw_g
abbrev b_A_reset : ByteArray := prog_1_method_8_code
abbrev y_A_reset : MethodName := ⟨"AppletFirewall", "reset", "()I"⟩
abbrev w_A_reset : List Cond := .code y_A_reset b_A_reset 2 (some .int) :: lw_g
abbrev b_A_writes : ByteArray := prog_1_method_9_code
abbrev y_A_writes : MethodName := ⟨"AppletFirewall", "writes", "()I"⟩
abbrev w_A_writes : List Cond := .code y_A_writes b_A_writes 1 (some .int) :: lw_g
abbrev b_A_failures : ByteArray := prog_1_method_10_code
abbrev y_A_failures : MethodName := ⟨"AppletFirewall", "failures", "()I"⟩
abbrev w_A_failures : List Cond := .code y_A_failures b_A_failures 1 (some .int) :: lw_g
abbrev b_A_data : ByteArray := prog_1_method_11_code
abbrev y_A_data : MethodName := ⟨"AppletFirewall", "data", "(II)I"⟩
abbrev w_A_data : List Cond := .code y_A_data b_A_data 3 (some .int) :: lw_g
abbrev b_A_tries : ByteArray := prog_1_method_12_code
abbrev y_A_tries : MethodName := ⟨"AppletFirewall", "tries", "(I)I"⟩
abbrev w_A_tries : List Cond := .code y_A_tries b_A_tries 2 (some .int) :: lw_g
abbrev b_A_shareByte : ByteArray := prog_1_method_37_code
abbrev y_A_shareByte : MethodName := ⟨"AppletFirewall", "shareByte", "(II)I"⟩
abbrev w_A_shareByte : List Cond := .code y_A_shareByte b_A_shareByte 3 (some .int) :: lw_g
abbrev b_A_share : ByteArray := prog_1_method_13_code
abbrev y_A_share : MethodName := ⟨"AppletFirewall", "share", "(I)I"⟩
abbrev w_A_share : List Cond := .code y_A_share b_A_share 4 (some .int) :: lw_g
abbrev b_A_pending : ByteArray := prog_1_method_14_code
abbrev y_A_pending : MethodName := ⟨"AppletFirewall", "pending", "()I"⟩
abbrev w_A_pending : List Cond := .code y_A_pending b_A_pending 1 (some .int) :: lw_g
abbrev b_A_session : ByteArray := prog_1_method_15_code
abbrev y_A_session : MethodName := ⟨"AppletFirewall", "session", "()I"⟩
abbrev w_A_session : List Cond := .code y_A_session b_A_session 1 (some .int) :: lw_g
abbrev b_A_ownerOf : ByteArray := prog_1_method_35_code
abbrev y_A_ownerOf : MethodName := ⟨"AppletFirewall", "ownerOf", "(I)I"⟩
abbrev w_A_ownerOf : List Cond := .code y_A_ownerOf b_A_ownerOf 3 (some .int) :: lw_g
abbrev b_A_clientOf : ByteArray := prog_1_method_36_code
abbrev y_A_clientOf : MethodName := ⟨"AppletFirewall", "clientOf", "(I)I"⟩
abbrev w_A_clientOf : List Cond := .code y_A_clientOf b_A_clientOf 3 (some .int) :: lw_g
abbrev b_A_sharedPlace : ByteArray := prog_1_method_38_code
abbrev y_A_sharedPlace : MethodName := ⟨"AppletFirewall", "sharedPlace", "(II)I"⟩
abbrev w_A_sharedPlace : List Cond := .code y_A_sharedPlace b_A_sharedPlace 3 (some .int) :: lw_g
abbrev b_A_respond : ByteArray := prog_1_method_31_code
abbrev y_A_respond : MethodName := ⟨"AppletFirewall", "respond", "(II)I"⟩
abbrev w_A_respond : List Cond := .code y_A_respond b_A_respond 4 (some .int) :: lw_g
abbrev b_A_store : ByteArray := prog_1_method_33_code
abbrev y_A_store : MethodName := ⟨"AppletFirewall", "store", "(I[III)I"⟩
abbrev w_A_store : List Cond := .code y_A_store b_A_store 6 (some .int) :: lw_g
abbrev b_A_storePayload : ByteArray := prog_1_method_32_code
abbrev y_A_storePayload : MethodName := ⟨"AppletFirewall", "storePayload", "(I)I"⟩
abbrev w_A_storePayload : List Cond := .code y_A_storePayload b_A_storePayload 2 (some .int) :: lw_g
abbrev b_A_select : ByteArray := prog_1_method_19_code
abbrev y_A_select : MethodName := ⟨"AppletFirewall", "select", "()I"⟩
abbrev w_A_select : List Cond := .code y_A_select b_A_select 2 (some .int) :: lw_g
abbrev b_A_payloadIsSecret : ByteArray := prog_1_method_21_code
abbrev y_A_payloadIsSecret : MethodName := ⟨"AppletFirewall", "payloadIsSecret", "()Z"⟩
abbrev w_A_payloadIsSecret : List Cond := .code y_A_payloadIsSecret b_A_payloadIsSecret 3 (some .boolean) :: lw_g
abbrev b_A_verify : ByteArray := prog_1_method_20_code
abbrev y_A_verify : MethodName := ⟨"AppletFirewall", "verify", "()I"⟩
abbrev w_A_verify : List Cond := .code y_A_verify b_A_verify 3 (some .int) :: lw_g
abbrev b_A_unblock : ByteArray := prog_1_method_22_code
abbrev y_A_unblock : MethodName := ⟨"AppletFirewall", "unblock", "()I"⟩
abbrev w_A_unblock : List Cond := .code y_A_unblock b_A_unblock 1 (some .int) :: lw_g
abbrev b_A_read : ByteArray := prog_1_method_23_code
abbrev y_A_read : MethodName := ⟨"AppletFirewall", "read", "()I"⟩
abbrev w_A_read : List Cond := .code y_A_read b_A_read 1 (some .int) :: lw_g
abbrev b_A_update : ByteArray := prog_1_method_24_code
abbrev y_A_update : MethodName := ⟨"AppletFirewall", "update", "()I"⟩
abbrev w_A_update : List Cond := .code y_A_update b_A_update 1 (some .int) :: lw_g
abbrev b_A_begin : ByteArray := prog_1_method_25_code
abbrev y_A_begin : MethodName := ⟨"AppletFirewall", "begin", "()I"⟩
abbrev w_A_begin : List Cond := .code y_A_begin b_A_begin 1 (some .int) :: lw_g
abbrev b_A_end : ByteArray := prog_1_method_26_code
abbrev y_A_end : MethodName := ⟨"AppletFirewall", "end", "()I"⟩
abbrev w_A_end : List Cond := .code y_A_end b_A_end 2 (some .int) :: lw_g
abbrev b_A_grant : ByteArray := prog_1_method_27_code
abbrev y_A_grant : MethodName := ⟨"AppletFirewall", "grant", "()I"⟩
abbrev w_A_grant : List Cond := .code y_A_grant b_A_grant 6 (some .int) :: lw_g
abbrev b_A_revoke : ByteArray := prog_1_method_28_code
abbrev y_A_revoke : MethodName := ⟨"AppletFirewall", "revoke", "()I"⟩
abbrev w_A_revoke : List Cond := .code y_A_revoke b_A_revoke 2 (some .int) :: lw_g
abbrev b_A_readShared : ByteArray := prog_1_method_29_code
abbrev y_A_readShared : MethodName := ⟨"AppletFirewall", "readShared", "()I"⟩
abbrev w_A_readShared : List Cond := .code y_A_readShared b_A_readShared 2 (some .int) :: lw_g
abbrev b_A_updateShared : ByteArray := prog_1_method_30_code
abbrev y_A_updateShared : MethodName := ⟨"AppletFirewall", "updateShared", "()I"⟩
abbrev w_A_updateShared : List Cond := .code y_A_updateShared b_A_updateShared 2 (some .int) :: lw_g
abbrev b_E_withCode : ByteArray := prog_4_method_4_code
abbrev y_E_withCode : MethodName := ⟨"AppletFirewall$Instruction", "withCode", "(I)LAppletFirewall$Instruction;"⟩
abbrev w_E_withCode : List Cond := .code y_E_withCode b_E_withCode 2 (some (.object "AppletFirewall$Instruction")) :: lw_g
abbrev b_E_takesForm : ByteArray := prog_4_method_5_code
abbrev y_E_takesForm : MethodName := ⟨"AppletFirewall$Instruction", "takesForm", "(II)Z"⟩
abbrev w_E_takesForm : List Cond := .code y_E_takesForm b_E_takesForm 3 (some .boolean) :: lw_g
abbrev b_E_takesParameters : ByteArray := prog_4_method_6_code
abbrev y_E_takesParameters : MethodName := ⟨"AppletFirewall$Instruction", "takesParameters", "(II)Z"⟩
abbrev w_E_takesParameters : List Cond := .code y_E_takesParameters b_E_takesParameters 3 (some .boolean) :: lw_g
abbrev b_E_isGuarded : ByteArray := prog_4_method_7_code
abbrev y_E_isGuarded : MethodName := ⟨"AppletFirewall$Instruction", "isGuarded", "()Z"⟩
abbrev w_E_isGuarded : List Cond := .code y_E_isGuarded b_E_isGuarded 1 (some .boolean) :: lw_g
abbrev b_A_admit : ByteArray := prog_1_method_17_code
abbrev y_A_admit : MethodName := ⟨"AppletFirewall", "admit", "(LAppletFirewall$Instruction;)I"⟩
abbrev w_A_admit : List Cond := .code y_A_admit b_A_admit 2 (some .int) :: lw_g
abbrev b_A_perform : ByteArray := prog_1_method_18_code
abbrev y_A_perform : MethodName := ⟨"AppletFirewall", "perform", "(LAppletFirewall$Instruction;)I"⟩
abbrev w_A_perform : List Cond := .code y_A_perform b_A_perform 2 (some .int) :: lw_g
abbrev b_A_run : ByteArray := prog_1_method_3_code
abbrev y_A_run : MethodName := ⟨"AppletFirewall", "run", "()I"⟩
abbrev w_A_run : List Cond := .code y_A_run b_A_run 3 (some .int) :: lw_g
abbrev b_Rf_init : ByteArray := prog_7_method_1_code
abbrev y_Rf_init : MethodName := ⟨"AppletFirewallModel", "<init>", "()V"⟩
abbrev w_Rf_init : List Cond := .code y_Rf_init b_Rf_init 2 none :: lw_g
abbrev b_Rf_forget : ByteArray := prog_7_method_2_code
abbrev y_Rf_forget : MethodName := ⟨"AppletFirewallModel", "forget", "()V"⟩
abbrev w_Rf_forget : List Cond := .code y_Rf_forget b_Rf_forget 1 none :: lw_g
abbrev b_Rf_write : ByteArray := prog_7_method_3_code
abbrev y_Rf_write : MethodName := ⟨"AppletFirewallModel", "write", "()Z"⟩
abbrev w_Rf_write : List Cond := .code y_Rf_write b_Rf_write 1 (some .boolean) :: lw_g
abbrev b_Rf_several : ByteArray := prog_7_method_4_code
abbrev y_Rf_several : MethodName := ⟨"AppletFirewallModel", "several", "(I)Z"⟩
abbrev w_Rf_several : List Cond := .code y_Rf_several b_Rf_several 3 (some .boolean) :: lw_g
abbrev b_Rf_change : ByteArray := prog_7_method_5_code
abbrev y_Rf_change : MethodName := ⟨"AppletFirewallModel", "change", "(II)Z"⟩
abbrev w_Rf_change : List Cond := .code y_Rf_change b_Rf_change 4 (some .boolean) :: lw_g
abbrev b_Rf_settle : ByteArray := prog_7_method_6_code
abbrev y_Rf_settle : MethodName := ⟨"AppletFirewallModel", "settle", "()Z"⟩
abbrev w_Rf_settle : List Cond := .code y_Rf_settle b_Rf_settle 1 (some .boolean) :: lw_g
abbrev b_Rf_undo : ByteArray := prog_7_method_7_code
abbrev y_Rf_undo : MethodName := ⟨"AppletFirewallModel", "undo", "()Z"⟩
abbrev w_Rf_undo : List Cond := .code y_Rf_undo b_Rf_undo 2 (some .boolean) :: lw_g
abbrev b_Rf_tear : ByteArray := prog_7_method_8_code
abbrev y_Rf_tear : MethodName := ⟨"AppletFirewallModel", "tear", "(I)Z"⟩
abbrev w_Rf_tear : List Cond := .code y_Rf_tear b_Rf_tear 2 (some .boolean) :: lw_g
abbrev b_Rf_reset : ByteArray := prog_7_method_9_code
abbrev y_Rf_reset : MethodName := ⟨"AppletFirewallModel", "reset", "()I"⟩
abbrev w_Rf_reset : List Cond := .code y_Rf_reset b_Rf_reset 2 (some .int) :: lw_g
abbrev b_Rf_put : ByteArray := prog_7_method_10_code
abbrev y_Rf_put : MethodName := ⟨"AppletFirewallModel", "put", "(JI)Z"⟩
abbrev w_Rf_put : List Cond := .code y_Rf_put b_Rf_put 5 (some .boolean) :: lw_g
abbrev b_Rf_shape : ByteArray := prog_7_method_11_code
abbrev y_Rf_shape : MethodName := ⟨"AppletFirewallModel", "shape", "()I"⟩
abbrev w_Rf_shape : List Cond := .code y_Rf_shape b_Rf_shape 2 (some .int) :: lw_g
abbrev b_Rf_starred : ByteArray := prog_7_method_12_code
abbrev y_Rf_starred : MethodName := ⟨"AppletFirewallModel", "starred", "(I)Z"⟩
abbrev w_Rf_starred : List Cond := .code y_Rf_starred b_Rf_starred 1 (some .boolean) :: lw_g
abbrev b_Rf_known : ByteArray := prog_7_method_13_code
abbrev y_Rf_known : MethodName := ⟨"AppletFirewallModel", "known", "(I)Z"⟩
abbrev w_Rf_known : List Cond := .code y_Rf_known b_Rf_known 1 (some .boolean) :: lw_g
abbrev b_Rf_shapeOf : ByteArray := prog_7_method_14_code
abbrev y_Rf_shapeOf : MethodName := ⟨"AppletFirewallModel", "shapeOf", "(I)I"⟩
abbrev w_Rf_shapeOf : List Cond := .code y_Rf_shapeOf b_Rf_shapeOf 1 (some .int) :: lw_g
abbrev b_Rf_lengthWrong : ByteArray := prog_7_method_15_code
abbrev y_Rf_lengthWrong : MethodName := ⟨"AppletFirewallModel", "lengthWrong", "(I)Z"⟩
abbrev w_Rf_lengthWrong : List Cond := .code y_Rf_lengthWrong b_Rf_lengthWrong 3 (some .boolean) :: lw_g
abbrev b_Rf_placesWrong : ByteArray := prog_7_method_16_code
abbrev y_Rf_placesWrong : MethodName := ⟨"AppletFirewallModel", "placesWrong", "(I)Z"⟩
abbrev w_Rf_placesWrong : List Cond := .code y_Rf_placesWrong b_Rf_placesWrong 4 (some .boolean) :: lw_g
abbrev b_Rf_refuse : ByteArray := prog_7_method_17_code
abbrev y_Rf_refuse : MethodName := ⟨"AppletFirewallModel", "refuse", "()I"⟩
abbrev w_Rf_refuse : List Cond := .code y_Rf_refuse b_Rf_refuse 3 (some .int) :: lw_g
abbrev b_Rf_store : ByteArray := prog_7_method_20_code
abbrev y_Rf_store : MethodName := ⟨"AppletFirewallModel", "store", "(II)I"⟩
abbrev w_Rf_store : List Cond := .code y_Rf_store b_Rf_store 4 (some .int) :: lw_g
abbrev b_Rf_select : ByteArray := prog_7_method_21_code
abbrev y_Rf_select : MethodName := ⟨"AppletFirewallModel", "select", "(I)I"⟩
abbrev w_Rf_select : List Cond := .code y_Rf_select b_Rf_select 2 (some .int) :: lw_g
abbrev b_Rf_verify : ByteArray := prog_7_method_22_code
abbrev y_Rf_verify : MethodName := ⟨"AppletFirewallModel", "verify", "()I"⟩
abbrev w_Rf_verify : List Cond := .code y_Rf_verify b_Rf_verify 2 (some .int) :: lw_g
abbrev b_Rf_unblock : ByteArray := prog_7_method_23_code
abbrev y_Rf_unblock : MethodName := ⟨"AppletFirewallModel", "unblock", "(I)I"⟩
abbrev w_Rf_unblock : List Cond := .code y_Rf_unblock b_Rf_unblock 2 (some .int) :: lw_g
abbrev b_Rf_begin : ByteArray := prog_7_method_24_code
abbrev y_Rf_begin : MethodName := ⟨"AppletFirewallModel", "begin", "()I"⟩
abbrev w_Rf_begin : List Cond := .code y_Rf_begin b_Rf_begin 1 (some .int) :: lw_g
abbrev b_Rf_end : ByteArray := prog_7_method_25_code
abbrev y_Rf_end : MethodName := ⟨"AppletFirewallModel", "end", "(I)I"⟩
abbrev w_Rf_end : List Cond := .code y_Rf_end b_Rf_end 3 (some .int) :: lw_g
abbrev b_Rf_read : ByteArray := prog_7_method_26_code
abbrev y_Rf_read : MethodName := ⟨"AppletFirewallModel", "read", "(III)I"⟩
abbrev w_Rf_read : List Cond := .code y_Rf_read b_Rf_read 6 (some .int) :: lw_g
abbrev b_Rf_grant : ByteArray := prog_7_method_27_code
abbrev y_Rf_grant : MethodName := ⟨"AppletFirewallModel", "grant", "(I)I"⟩
abbrev w_Rf_grant : List Cond := .code y_Rf_grant b_Rf_grant 6 (some .int) :: lw_g
abbrev b_Rf_shared : ByteArray := prog_7_method_28_code
abbrev y_Rf_shared : MethodName := ⟨"AppletFirewallModel", "shared", "(III)I"⟩
abbrev w_Rf_shared : List Cond := .code y_Rf_shared b_Rf_shared 8 (some .int) :: lw_g
abbrev b_Rf_carry : ByteArray := prog_7_method_19_code
abbrev y_Rf_carry : MethodName := ⟨"AppletFirewallModel", "carry", "(III)I"⟩
abbrev w_Rf_carry : List Cond := .code y_Rf_carry b_Rf_carry 4 (some .int) :: lw_g
abbrev b_Rf_run : ByteArray := prog_7_method_18_code
abbrev y_Rf_run : MethodName := ⟨"AppletFirewallModel", "run", "()I"⟩
abbrev w_Rf_run : List Cond := .code y_Rf_run b_Rf_run 2 (some .int) :: lw_g
abbrev b_Rf_waiting : ByteArray := prog_7_method_29_code
abbrev y_Rf_waiting : MethodName := ⟨"AppletFirewallModel", "waiting", "()I"⟩
abbrev w_Rf_waiting : List Cond := .code y_Rf_waiting b_Rf_waiting 1 (some .int) :: lw_g
abbrev b_Rf_length : ByteArray := prog_7_method_30_code
abbrev y_Rf_length : MethodName := ⟨"AppletFirewallModel", "length", "()I"⟩
abbrev w_Rf_length : List Cond := .code y_Rf_length b_Rf_length 1 (some .int) :: lw_g
abbrev b_Rf_response : ByteArray := prog_7_method_31_code
abbrev y_Rf_response : MethodName := ⟨"AppletFirewallModel", "response", "(I)I"⟩
abbrev w_Rf_response : List Cond := .code y_Rf_response b_Rf_response 2 (some .int) :: lw_g
abbrev b_Rf_writes : ByteArray := prog_7_method_32_code
abbrev y_Rf_writes : MethodName := ⟨"AppletFirewallModel", "writes", "()I"⟩
abbrev w_Rf_writes : List Cond := .code y_Rf_writes b_Rf_writes 1 (some .int) :: lw_g
abbrev b_Rf_failures : ByteArray := prog_7_method_33_code
abbrev y_Rf_failures : MethodName := ⟨"AppletFirewallModel", "failures", "()I"⟩
abbrev w_Rf_failures : List Cond := .code y_Rf_failures b_Rf_failures 1 (some .int) :: lw_g
abbrev b_Rf_data : ByteArray := prog_7_method_34_code
abbrev y_Rf_data : MethodName := ⟨"AppletFirewallModel", "data", "(II)I"⟩
abbrev w_Rf_data : List Cond := .code y_Rf_data b_Rf_data 3 (some .int) :: lw_g
abbrev b_Rf_tries : ByteArray := prog_7_method_35_code
abbrev y_Rf_tries : MethodName := ⟨"AppletFirewallModel", "tries", "(I)I"⟩
abbrev w_Rf_tries : List Cond := .code y_Rf_tries b_Rf_tries 2 (some .int) :: lw_g
abbrev b_Rf_share : ByteArray := prog_7_method_36_code
abbrev y_Rf_share : MethodName := ⟨"AppletFirewallModel", "share", "(I)I"⟩
abbrev w_Rf_share : List Cond := .code y_Rf_share b_Rf_share 3 (some .int) :: lw_g
abbrev b_Rf_pending : ByteArray := prog_7_method_37_code
abbrev y_Rf_pending : MethodName := ⟨"AppletFirewallModel", "pending", "()I"⟩
abbrev w_Rf_pending : List Cond := .code y_Rf_pending b_Rf_pending 1 (some .int) :: lw_g
abbrev b_Rf_session : ByteArray := prog_7_method_38_code
abbrev y_Rf_session : MethodName := ⟨"AppletFirewallModel", "session", "()I"⟩
abbrev w_Rf_session : List Cond := .code y_Rf_session b_Rf_session 1 (some .int) :: lw_g
theorem wq0 : (.selects "AppletFirewall" ⟨"AppletFirewall", "admit", "(LAppletFirewall$Instruction;)I"⟩ ⟨"AppletFirewall", "admit", "(LAppletFirewall$Instruction;)I"⟩ : Cond) ∈ lw_g := List.mem_filter.mpr ⟨List.mem_of_getElem? (i := 0) (by decide +kernel), by decide +kernel⟩
theorem wq1 : (.selects "AppletFirewall" ⟨"AppletFirewall", "perform", "(LAppletFirewall$Instruction;)I"⟩ ⟨"AppletFirewall", "perform", "(LAppletFirewall$Instruction;)I"⟩ : Cond) ∈ lw_g := List.mem_filter.mpr ⟨List.mem_of_getElem? (i := 1) (by decide +kernel), by decide +kernel⟩
theorem wq2 : (.selects "AppletFirewall" ⟨"AppletFirewall", "select", "()I"⟩ ⟨"AppletFirewall", "select", "()I"⟩ : Cond) ∈ lw_g := List.mem_filter.mpr ⟨List.mem_of_getElem? (i := 2) (by decide +kernel), by decide +kernel⟩
theorem wq3 : (.selects "AppletFirewall" ⟨"AppletFirewall", "respond", "(II)I"⟩ ⟨"AppletFirewall", "respond", "(II)I"⟩ : Cond) ∈ lw_g := List.mem_filter.mpr ⟨List.mem_of_getElem? (i := 3) (by decide +kernel), by decide +kernel⟩
theorem wq4 : (.selects "AppletFirewall" ⟨"AppletFirewall", "verify", "()I"⟩ ⟨"AppletFirewall", "verify", "()I"⟩ : Cond) ∈ lw_g := List.mem_filter.mpr ⟨List.mem_of_getElem? (i := 4) (by decide +kernel), by decide +kernel⟩
theorem wq5 : (.selects "AppletFirewall" ⟨"AppletFirewall", "payloadIsSecret", "()Z"⟩ ⟨"AppletFirewall", "payloadIsSecret", "()Z"⟩ : Cond) ∈ lw_g := List.mem_filter.mpr ⟨List.mem_of_getElem? (i := 5) (by decide +kernel), by decide +kernel⟩
theorem wq6 : (.selects "AppletFirewall" ⟨"AppletFirewall", "storePayload", "(I)I"⟩ ⟨"AppletFirewall", "storePayload", "(I)I"⟩ : Cond) ∈ lw_g := List.mem_filter.mpr ⟨List.mem_of_getElem? (i := 6) (by decide +kernel), by decide +kernel⟩
theorem wq7 : (.selects "AppletFirewall" ⟨"AppletFirewall", "store", "(I[III)I"⟩ ⟨"AppletFirewall", "store", "(I[III)I"⟩ : Cond) ∈ lw_g := List.mem_filter.mpr ⟨List.mem_of_getElem? (i := 7) (by decide +kernel), by decide +kernel⟩
theorem wq8 : (.selects "AppletFirewall" ⟨"AppletFirewall", "unblock", "()I"⟩ ⟨"AppletFirewall", "unblock", "()I"⟩ : Cond) ∈ lw_g := List.mem_filter.mpr ⟨List.mem_of_getElem? (i := 8) (by decide +kernel), by decide +kernel⟩
theorem wq9 : (.selects "AppletFirewall" ⟨"AppletFirewall", "read", "()I"⟩ ⟨"AppletFirewall", "read", "()I"⟩ : Cond) ∈ lw_g := List.mem_filter.mpr ⟨List.mem_of_getElem? (i := 9) (by decide +kernel), by decide +kernel⟩
theorem wq10 : (.selects "AppletFirewall" ⟨"AppletFirewall", "update", "()I"⟩ ⟨"AppletFirewall", "update", "()I"⟩ : Cond) ∈ lw_g := List.mem_filter.mpr ⟨List.mem_of_getElem? (i := 10) (by decide +kernel), by decide +kernel⟩
theorem wq11 : (.selects "AppletFirewall" ⟨"AppletFirewall", "begin", "()I"⟩ ⟨"AppletFirewall", "begin", "()I"⟩ : Cond) ∈ lw_g := List.mem_filter.mpr ⟨List.mem_of_getElem? (i := 11) (by decide +kernel), by decide +kernel⟩
theorem wq12 : (.selects "AppletFirewall" ⟨"AppletFirewall", "end", "()I"⟩ ⟨"AppletFirewall", "end", "()I"⟩ : Cond) ∈ lw_g := List.mem_filter.mpr ⟨List.mem_of_getElem? (i := 12) (by decide +kernel), by decide +kernel⟩
theorem wq13 : (.selects "AppletFirewall" ⟨"AppletFirewall", "grant", "()I"⟩ ⟨"AppletFirewall", "grant", "()I"⟩ : Cond) ∈ lw_g := List.mem_filter.mpr ⟨List.mem_of_getElem? (i := 13) (by decide +kernel), by decide +kernel⟩
theorem wq14 : (.selects "AppletFirewall" ⟨"AppletFirewall", "ownerOf", "(I)I"⟩ ⟨"AppletFirewall", "ownerOf", "(I)I"⟩ : Cond) ∈ lw_g := List.mem_filter.mpr ⟨List.mem_of_getElem? (i := 14) (by decide +kernel), by decide +kernel⟩
theorem wq15 : (.selects "AppletFirewall" ⟨"AppletFirewall", "shareByte", "(II)I"⟩ ⟨"AppletFirewall", "shareByte", "(II)I"⟩ : Cond) ∈ lw_g := List.mem_filter.mpr ⟨List.mem_of_getElem? (i := 15) (by decide +kernel), by decide +kernel⟩
theorem wq16 : (.selects "AppletFirewall" ⟨"AppletFirewall", "revoke", "()I"⟩ ⟨"AppletFirewall", "revoke", "()I"⟩ : Cond) ∈ lw_g := List.mem_filter.mpr ⟨List.mem_of_getElem? (i := 16) (by decide +kernel), by decide +kernel⟩
theorem wq17 : (.selects "AppletFirewall" ⟨"AppletFirewall", "readShared", "()I"⟩ ⟨"AppletFirewall", "readShared", "()I"⟩ : Cond) ∈ lw_g := List.mem_filter.mpr ⟨List.mem_of_getElem? (i := 17) (by decide +kernel), by decide +kernel⟩
theorem wq18 : (.selects "AppletFirewall" ⟨"AppletFirewall", "clientOf", "(I)I"⟩ ⟨"AppletFirewall", "clientOf", "(I)I"⟩ : Cond) ∈ lw_g := List.mem_filter.mpr ⟨List.mem_of_getElem? (i := 18) (by decide +kernel), by decide +kernel⟩
theorem wq19 : (.selects "AppletFirewall" ⟨"AppletFirewall", "sharedPlace", "(II)I"⟩ ⟨"AppletFirewall", "sharedPlace", "(II)I"⟩ : Cond) ∈ lw_g := List.mem_filter.mpr ⟨List.mem_of_getElem? (i := 19) (by decide +kernel), by decide +kernel⟩
theorem wq20 : (.selects "AppletFirewall" ⟨"AppletFirewall", "updateShared", "()I"⟩ ⟨"AppletFirewall", "updateShared", "()I"⟩ : Cond) ∈ lw_g := List.mem_filter.mpr ⟨List.mem_of_getElem? (i := 20) (by decide +kernel), by decide +kernel⟩
theorem wq21 : (.selects "AppletFirewall" ⟨"AppletFirewall", "switchOff", "()V"⟩ ⟨"AppletFirewall", "switchOff", "()V"⟩ : Cond) ∈ lw_g := List.mem_filter.mpr ⟨List.mem_of_getElem? (i := 21) (by decide +kernel), by decide +kernel⟩
theorem wq22 : (.selects "AppletFirewallModel" ⟨"AppletFirewallModel", "forget", "()V"⟩ ⟨"AppletFirewallModel", "forget", "()V"⟩ : Cond) ∈ lw_g := List.mem_filter.mpr ⟨List.mem_of_getElem? (i := 22) (by decide +kernel), by decide +kernel⟩
theorem wq23 : (.selects "AppletFirewallModel" ⟨"AppletFirewallModel", "undo", "()Z"⟩ ⟨"AppletFirewallModel", "undo", "()Z"⟩ : Cond) ∈ lw_g := List.mem_filter.mpr ⟨List.mem_of_getElem? (i := 23) (by decide +kernel), by decide +kernel⟩
theorem wq24 : (.selects "AppletFirewallModel" ⟨"AppletFirewallModel", "several", "(I)Z"⟩ ⟨"AppletFirewallModel", "several", "(I)Z"⟩ : Cond) ∈ lw_g := List.mem_filter.mpr ⟨List.mem_of_getElem? (i := 24) (by decide +kernel), by decide +kernel⟩
theorem wq25 : (.selects "AppletFirewallModel" ⟨"AppletFirewallModel", "write", "()Z"⟩ ⟨"AppletFirewallModel", "write", "()Z"⟩ : Cond) ∈ lw_g := List.mem_filter.mpr ⟨List.mem_of_getElem? (i := 25) (by decide +kernel), by decide +kernel⟩
theorem wq26 : (.selects "AppletFirewallModel" ⟨"AppletFirewallModel", "refuse", "()I"⟩ ⟨"AppletFirewallModel", "refuse", "()I"⟩ : Cond) ∈ lw_g := List.mem_filter.mpr ⟨List.mem_of_getElem? (i := 26) (by decide +kernel), by decide +kernel⟩
theorem wq27 : (.selects "AppletFirewallModel" ⟨"AppletFirewallModel", "shape", "()I"⟩ ⟨"AppletFirewallModel", "shape", "()I"⟩ : Cond) ∈ lw_g := List.mem_filter.mpr ⟨List.mem_of_getElem? (i := 27) (by decide +kernel), by decide +kernel⟩
theorem wq28 : (.selects "AppletFirewallModel" ⟨"AppletFirewallModel", "lengthWrong", "(I)Z"⟩ ⟨"AppletFirewallModel", "lengthWrong", "(I)Z"⟩ : Cond) ∈ lw_g := List.mem_filter.mpr ⟨List.mem_of_getElem? (i := 28) (by decide +kernel), by decide +kernel⟩
theorem wq29 : (.selects "AppletFirewallModel" ⟨"AppletFirewallModel", "placesWrong", "(I)Z"⟩ ⟨"AppletFirewallModel", "placesWrong", "(I)Z"⟩ : Cond) ∈ lw_g := List.mem_filter.mpr ⟨List.mem_of_getElem? (i := 29) (by decide +kernel), by decide +kernel⟩
theorem wq30 : (.selects "AppletFirewallModel" ⟨"AppletFirewallModel", "carry", "(III)I"⟩ ⟨"AppletFirewallModel", "carry", "(III)I"⟩ : Cond) ∈ lw_g := List.mem_filter.mpr ⟨List.mem_of_getElem? (i := 30) (by decide +kernel), by decide +kernel⟩
theorem wq31 : (.selects "AppletFirewallModel" ⟨"AppletFirewallModel", "select", "(I)I"⟩ ⟨"AppletFirewallModel", "select", "(I)I"⟩ : Cond) ∈ lw_g := List.mem_filter.mpr ⟨List.mem_of_getElem? (i := 31) (by decide +kernel), by decide +kernel⟩
theorem wq32 : (.selects "AppletFirewallModel" ⟨"AppletFirewallModel", "verify", "()I"⟩ ⟨"AppletFirewallModel", "verify", "()I"⟩ : Cond) ∈ lw_g := List.mem_filter.mpr ⟨List.mem_of_getElem? (i := 32) (by decide +kernel), by decide +kernel⟩
theorem wq33 : (.selects "AppletFirewallModel" ⟨"AppletFirewallModel", "store", "(II)I"⟩ ⟨"AppletFirewallModel", "store", "(II)I"⟩ : Cond) ∈ lw_g := List.mem_filter.mpr ⟨List.mem_of_getElem? (i := 33) (by decide +kernel), by decide +kernel⟩
theorem wq34 : (.selects "AppletFirewallModel" ⟨"AppletFirewallModel", "change", "(II)Z"⟩ ⟨"AppletFirewallModel", "change", "(II)Z"⟩ : Cond) ∈ lw_g := List.mem_filter.mpr ⟨List.mem_of_getElem? (i := 34) (by decide +kernel), by decide +kernel⟩
theorem wq35 : (.selects "AppletFirewallModel" ⟨"AppletFirewallModel", "settle", "()Z"⟩ ⟨"AppletFirewallModel", "settle", "()Z"⟩ : Cond) ∈ lw_g := List.mem_filter.mpr ⟨List.mem_of_getElem? (i := 35) (by decide +kernel), by decide +kernel⟩
theorem wq36 : (.selects "AppletFirewallModel" ⟨"AppletFirewallModel", "unblock", "(I)I"⟩ ⟨"AppletFirewallModel", "unblock", "(I)I"⟩ : Cond) ∈ lw_g := List.mem_filter.mpr ⟨List.mem_of_getElem? (i := 36) (by decide +kernel), by decide +kernel⟩
theorem wq37 : (.selects "AppletFirewallModel" ⟨"AppletFirewallModel", "read", "(III)I"⟩ ⟨"AppletFirewallModel", "read", "(III)I"⟩ : Cond) ∈ lw_g := List.mem_filter.mpr ⟨List.mem_of_getElem? (i := 37) (by decide +kernel), by decide +kernel⟩
theorem wq38 : (.selects "AppletFirewallModel" ⟨"AppletFirewallModel", "begin", "()I"⟩ ⟨"AppletFirewallModel", "begin", "()I"⟩ : Cond) ∈ lw_g := List.mem_filter.mpr ⟨List.mem_of_getElem? (i := 38) (by decide +kernel), by decide +kernel⟩
theorem wq39 : (.selects "AppletFirewallModel" ⟨"AppletFirewallModel", "end", "(I)I"⟩ ⟨"AppletFirewallModel", "end", "(I)I"⟩ : Cond) ∈ lw_g := List.mem_filter.mpr ⟨List.mem_of_getElem? (i := 39) (by decide +kernel), by decide +kernel⟩
theorem wq40 : (.selects "AppletFirewallModel" ⟨"AppletFirewallModel", "grant", "(I)I"⟩ ⟨"AppletFirewallModel", "grant", "(I)I"⟩ : Cond) ∈ lw_g := List.mem_filter.mpr ⟨List.mem_of_getElem? (i := 40) (by decide +kernel), by decide +kernel⟩
theorem wq41 : (.selects "AppletFirewallModel" ⟨"AppletFirewallModel", "shared", "(III)I"⟩ ⟨"AppletFirewallModel", "shared", "(III)I"⟩ : Cond) ∈ lw_g := List.mem_filter.mpr ⟨List.mem_of_getElem? (i := 41) (by decide +kernel), by decide +kernel⟩
theorem wq43 : (.initialized "AppletFirewall" : Cond) ∈ lw_g := List.mem_filter.mpr ⟨List.mem_of_getElem? (i := 43) (by decide +kernel), by decide +kernel⟩
theorem wq44 : (.initialized "AppletFirewall$Memory" : Cond) ∈ lw_g := List.mem_filter.mpr ⟨List.mem_of_getElem? (i := 44) (by decide +kernel), by decide +kernel⟩
theorem wq45 : (.initialized "AppletFirewall$Input" : Cond) ∈ lw_g := List.mem_filter.mpr ⟨List.mem_of_getElem? (i := 45) (by decide +kernel), by decide +kernel⟩
theorem wq46 : (.initialized "AppletFirewallModel" : Cond) ∈ lw_g := List.mem_filter.mpr ⟨List.mem_of_getElem? (i := 46) (by decide +kernel), by decide +kernel⟩
theorem wq47 : (.initialized "java/lang/Enum" : Cond) ∈ lw_g := List.mem_filter.mpr ⟨List.mem_of_getElem? (i := 47) (by decide +kernel), by decide +kernel⟩
theorem wq48 : (.initialized "AppletFirewall$Instruction" : Cond) ∈ lw_g := List.mem_filter.mpr ⟨List.mem_of_getElem? (i := 48) (by decide +kernel), by decide +kernel⟩
theorem wq55 : (.methodLink "AppletFirewall" 1 ⟨"java/lang/Object", "<init>", "()V"⟩ : Cond) ∈ lw_g := List.mem_filter.mpr ⟨List.mem_of_getElem? (i := 55) (by decide +kernel), by decide +kernel⟩
theorem wq56 : (.instanceMethod ⟨"java/lang/Object", "<init>", "()V"⟩ : Cond) ∈ lw_g := List.mem_filter.mpr ⟨List.mem_of_getElem? (i := 56) (by decide +kernel), by decide +kernel⟩
theorem wq57 : (.code ⟨"java/lang/Object", "<init>", "()V"⟩ object_method_1_code 1 none : Cond) ∈ lw_g := List.mem_filter.mpr ⟨List.mem_of_getElem? (i := 57) (by decide +kernel), by decide +kernel⟩
theorem wq58 : (.classLink "AppletFirewall" 7 "AppletFirewall$Memory" : Cond) ∈ lw_g := List.mem_filter.mpr ⟨List.mem_of_getElem? (i := 58) (by decide +kernel), by decide +kernel⟩
theorem wq59 : (.instantiable "AppletFirewall$Memory" 4 : Cond) ∈ lw_g := List.mem_filter.mpr ⟨List.mem_of_getElem? (i := 59) (by decide +kernel), by decide +kernel⟩
theorem wq60 : (.methodLink "AppletFirewall" 9 ⟨"AppletFirewall$Memory", "<init>", "()V"⟩ : Cond) ∈ lw_g := List.mem_filter.mpr ⟨List.mem_of_getElem? (i := 60) (by decide +kernel), by decide +kernel⟩
theorem wq61 : (.instanceMethod ⟨"AppletFirewall$Memory", "<init>", "()V"⟩ : Cond) ∈ lw_g := List.mem_filter.mpr ⟨List.mem_of_getElem? (i := 61) (by decide +kernel), by decide +kernel⟩
theorem wq62 : (.code ⟨"AppletFirewall$Memory", "<init>", "()V"⟩ prog_5_method_1_code 2 none : Cond) ∈ lw_g := List.mem_filter.mpr ⟨List.mem_of_getElem? (i := 62) (by decide +kernel), by decide +kernel⟩
theorem wq63 : (.methodLink "AppletFirewall$Memory" 5 ⟨"java/lang/Object", "<init>", "()V"⟩ : Cond) ∈ lw_g := List.mem_filter.mpr ⟨List.mem_of_getElem? (i := 63) (by decide +kernel), by decide +kernel⟩
theorem wq64 : (.fieldLink "AppletFirewall$Memory" 11 "AppletFirewall$Memory" "cells" "[I" : Cond) ∈ lw_g := List.mem_filter.mpr ⟨List.mem_of_getElem? (i := 64) (by decide +kernel), by decide +kernel⟩
theorem wq65 : (.fieldLink "AppletFirewall$Memory" 19 "AppletFirewall$Memory" "written" "I" : Cond) ∈ lw_g := List.mem_filter.mpr ⟨List.mem_of_getElem? (i := 65) (by decide +kernel), by decide +kernel⟩
theorem wq66 : (.fieldLink "AppletFirewall$Memory" 22 "AppletFirewall$Memory" "failed" "I" : Cond) ∈ lw_g := List.mem_filter.mpr ⟨List.mem_of_getElem? (i := 66) (by decide +kernel), by decide +kernel⟩
theorem wq67 : (.fieldLink "AppletFirewall$Memory" 15 "AppletFirewall$Memory" "fuse" "I" : Cond) ∈ lw_g := List.mem_filter.mpr ⟨List.mem_of_getElem? (i := 67) (by decide +kernel), by decide +kernel⟩
theorem wq77 : (.arrayClass FieldType.int : Cond) ∈ lw_g := List.mem_filter.mpr ⟨List.mem_of_getElem? (i := 77) (by decide +kernel), by decide +kernel⟩
theorem wq78 : (.classLink "AppletFirewall" 16 "AppletFirewall$Input" : Cond) ∈ lw_g := List.mem_filter.mpr ⟨List.mem_of_getElem? (i := 78) (by decide +kernel), by decide +kernel⟩
theorem wq79 : (.instantiable "AppletFirewall$Input" 2 : Cond) ∈ lw_g := List.mem_filter.mpr ⟨List.mem_of_getElem? (i := 79) (by decide +kernel), by decide +kernel⟩
theorem wq80 : (.methodLink "AppletFirewall" 18 ⟨"AppletFirewall$Input", "<init>", "()V"⟩ : Cond) ∈ lw_g := List.mem_filter.mpr ⟨List.mem_of_getElem? (i := 80) (by decide +kernel), by decide +kernel⟩
theorem wq81 : (.instanceMethod ⟨"AppletFirewall$Input", "<init>", "()V"⟩ : Cond) ∈ lw_g := List.mem_filter.mpr ⟨List.mem_of_getElem? (i := 81) (by decide +kernel), by decide +kernel⟩
theorem wq82 : (.code ⟨"AppletFirewall$Input", "<init>", "()V"⟩ prog_3_method_1_code 1 none : Cond) ∈ lw_g := List.mem_filter.mpr ⟨List.mem_of_getElem? (i := 82) (by decide +kernel), by decide +kernel⟩
theorem wq83 : (.methodLink "AppletFirewall$Input" 1 ⟨"java/lang/Object", "<init>", "()V"⟩ : Cond) ∈ lw_g := List.mem_filter.mpr ⟨List.mem_of_getElem? (i := 83) (by decide +kernel), by decide +kernel⟩
theorem wq84 : (.fieldLink "AppletFirewall$Input" 9 "AppletFirewall$Input" "bytes" "[I" : Cond) ∈ lw_g := List.mem_filter.mpr ⟨List.mem_of_getElem? (i := 84) (by decide +kernel), by decide +kernel⟩
theorem wq85 : (.fieldLink "AppletFirewall$Input" 13 "AppletFirewall$Input" "count" "I" : Cond) ∈ lw_g := List.mem_filter.mpr ⟨List.mem_of_getElem? (i := 85) (by decide +kernel), by decide +kernel⟩
theorem wq91 : (.fieldLink "AppletFirewall" 10 "AppletFirewall" "memory" "LAppletFirewall$Memory;" : Cond) ∈ lw_g := List.mem_filter.mpr ⟨List.mem_of_getElem? (i := 91) (by decide +kernel), by decide +kernel⟩
theorem wq92 : (.fieldLink "AppletFirewall" 19 "AppletFirewall" "input" "LAppletFirewall$Input;" : Cond) ∈ lw_g := List.mem_filter.mpr ⟨List.mem_of_getElem? (i := 92) (by decide +kernel), by decide +kernel⟩
theorem wq93 : (.fieldLink "AppletFirewall" 23 "AppletFirewall" "answer" "[I" : Cond) ∈ lw_g := List.mem_filter.mpr ⟨List.mem_of_getElem? (i := 93) (by decide +kernel), by decide +kernel⟩
theorem wq94 : (.fieldLink "AppletFirewall" 27 "AppletFirewall" "grantRow" "[I" : Cond) ∈ lw_g := List.mem_filter.mpr ⟨List.mem_of_getElem? (i := 94) (by decide +kernel), by decide +kernel⟩
theorem wq95 : (.fieldLink "AppletFirewall" 42 "AppletFirewall" "answerLength" "I" : Cond) ∈ lw_g := List.mem_filter.mpr ⟨List.mem_of_getElem? (i := 95) (by decide +kernel), by decide +kernel⟩
theorem wq96 : (.fieldLink "AppletFirewall" 34 "AppletFirewall" "on" "Z" : Cond) ∈ lw_g := List.mem_filter.mpr ⟨List.mem_of_getElem? (i := 96) (by decide +kernel), by decide +kernel⟩
theorem wq97 : (.fieldLink "AppletFirewall" 30 "AppletFirewall" "selected" "I" : Cond) ∈ lw_g := List.mem_filter.mpr ⟨List.mem_of_getElem? (i := 97) (by decide +kernel), by decide +kernel⟩
theorem wq98 : (.fieldLink "AppletFirewall" 107 "AppletFirewall" "verified" "Z" : Cond) ∈ lw_g := List.mem_filter.mpr ⟨List.mem_of_getElem? (i := 98) (by decide +kernel), by decide +kernel⟩
theorem wq99 : (.fieldLink "AppletFirewall" 110 "AppletFirewall" "open" "Z" : Cond) ∈ lw_g := List.mem_filter.mpr ⟨List.mem_of_getElem? (i := 99) (by decide +kernel), by decide +kernel⟩
theorem wq123 : (.methodLink "AppletFirewall" 38 ⟨"AppletFirewall$Input", "append", "(JI)Z"⟩ : Cond) ∈ lw_g := List.mem_filter.mpr ⟨List.mem_of_getElem? (i := 123) (by decide +kernel), by decide +kernel⟩
theorem wq124 : (.instanceMethod ⟨"AppletFirewall$Input", "append", "(JI)Z"⟩ : Cond) ∈ lw_g := List.mem_filter.mpr ⟨List.mem_of_getElem? (i := 124) (by decide +kernel), by decide +kernel⟩
theorem wq125 : (.selects "AppletFirewall$Input" ⟨"AppletFirewall$Input", "append", "(JI)Z"⟩ ⟨"AppletFirewall$Input", "append", "(JI)Z"⟩ : Cond) ∈ lw_g := List.mem_filter.mpr ⟨List.mem_of_getElem? (i := 125) (by decide +kernel), by decide +kernel⟩
theorem wq126 : (.code ⟨"AppletFirewall$Input", "append", "(JI)Z"⟩ prog_3_method_2_code 5 (some FieldType.boolean) : Cond) ∈ lw_g := List.mem_filter.mpr ⟨List.mem_of_getElem? (i := 126) (by decide +kernel), by decide +kernel⟩
theorem wq131 : (.methodLink "AppletFirewall" 45 ⟨"AppletFirewall$Input", "instruction", "()I"⟩ : Cond) ∈ lw_g := List.mem_filter.mpr ⟨List.mem_of_getElem? (i := 131) (by decide +kernel), by decide +kernel⟩
theorem wq132 : (.instanceMethod ⟨"AppletFirewall$Input", "instruction", "()I"⟩ : Cond) ∈ lw_g := List.mem_filter.mpr ⟨List.mem_of_getElem? (i := 132) (by decide +kernel), by decide +kernel⟩
theorem wq133 : (.selects "AppletFirewall$Input" ⟨"AppletFirewall$Input", "instruction", "()I"⟩ ⟨"AppletFirewall$Input", "instruction", "()I"⟩ : Cond) ∈ lw_g := List.mem_filter.mpr ⟨List.mem_of_getElem? (i := 133) (by decide +kernel), by decide +kernel⟩
theorem wq134 : (.code ⟨"AppletFirewall$Input", "instruction", "()I"⟩ prog_3_method_7_code 1 (some FieldType.int) : Cond) ∈ lw_g := List.mem_filter.mpr ⟨List.mem_of_getElem? (i := 134) (by decide +kernel), by decide +kernel⟩
theorem wq135 : (.methodLink "AppletFirewall" 49 ⟨"AppletFirewall$Instruction", "withCode", "(I)LAppletFirewall$Instruction;"⟩ : Cond) ∈ lw_g := List.mem_filter.mpr ⟨List.mem_of_getElem? (i := 135) (by decide +kernel), by decide +kernel⟩
theorem wq136 : (.static ⟨"AppletFirewall$Instruction", "withCode", "(I)LAppletFirewall$Instruction;"⟩ : Cond) ∈ lw_g := List.mem_filter.mpr ⟨List.mem_of_getElem? (i := 136) (by decide +kernel), by decide +kernel⟩
theorem wq137 : (.code ⟨"AppletFirewall$Instruction", "withCode", "(I)LAppletFirewall$Instruction;"⟩ prog_4_method_4_code 2 (some (FieldType.object "AppletFirewall$Instruction")) : Cond) ∈ lw_g := List.mem_filter.mpr ⟨List.mem_of_getElem? (i := 137) (by decide +kernel), by decide +kernel⟩
theorem wq138 : (.fieldLink "AppletFirewall$Instruction" 82 "AppletFirewall$Instruction" "ALL" "[LAppletFirewall$Instruction;" : Cond) ∈ lw_g := List.mem_filter.mpr ⟨List.mem_of_getElem? (i := 138) (by decide +kernel), by decide +kernel⟩
theorem wq140 : (.fieldLink "AppletFirewall$Instruction" 40 "AppletFirewall$Instruction" "UNKNOWN" "LAppletFirewall$Instruction;" : Cond) ∈ lw_g := List.mem_filter.mpr ⟨List.mem_of_getElem? (i := 140) (by decide +kernel), by decide +kernel⟩
theorem wq142 : (.methodLink "AppletFirewall" 55 ⟨"AppletFirewall", "admit", "(LAppletFirewall$Instruction;)I"⟩ : Cond) ∈ lw_g := List.mem_filter.mpr ⟨List.mem_of_getElem? (i := 142) (by decide +kernel), by decide +kernel⟩
theorem wq144 : (.instanceMethod ⟨"AppletFirewall", "admit", "(LAppletFirewall$Instruction;)I"⟩ : Cond) ∈ lw_g := List.mem_filter.mpr ⟨List.mem_of_getElem? (i := 144) (by decide +kernel), by decide +kernel⟩
theorem wq145 : (.code ⟨"AppletFirewall", "admit", "(LAppletFirewall$Instruction;)I"⟩ prog_1_method_17_code 2 (some FieldType.int) : Cond) ∈ lw_g := List.mem_filter.mpr ⟨List.mem_of_getElem? (i := 145) (by decide +kernel), by decide +kernel⟩
theorem wq146 : (.methodLink "AppletFirewall" 113 ⟨"AppletFirewall$Input", "shape", "()I"⟩ : Cond) ∈ lw_g := List.mem_filter.mpr ⟨List.mem_of_getElem? (i := 146) (by decide +kernel), by decide +kernel⟩
theorem wq147 : (.instanceMethod ⟨"AppletFirewall$Input", "shape", "()I"⟩ : Cond) ∈ lw_g := List.mem_filter.mpr ⟨List.mem_of_getElem? (i := 147) (by decide +kernel), by decide +kernel⟩
theorem wq148 : (.selects "AppletFirewall$Input" ⟨"AppletFirewall$Input", "shape", "()I"⟩ ⟨"AppletFirewall$Input", "shape", "()I"⟩ : Cond) ∈ lw_g := List.mem_filter.mpr ⟨List.mem_of_getElem? (i := 148) (by decide +kernel), by decide +kernel⟩
theorem wq149 : (.code ⟨"AppletFirewall$Input", "shape", "()I"⟩ prog_3_method_5_code 1 (some FieldType.int) : Cond) ∈ lw_g := List.mem_filter.mpr ⟨List.mem_of_getElem? (i := 149) (by decide +kernel), by decide +kernel⟩
theorem wq150 : (.methodLink "AppletFirewall$Input" 17 ⟨"AppletFirewall$Input", "lc", "()I"⟩ : Cond) ∈ lw_g := List.mem_filter.mpr ⟨List.mem_of_getElem? (i := 150) (by decide +kernel), by decide +kernel⟩
theorem wq151 : (.instanceMethod ⟨"AppletFirewall$Input", "lc", "()I"⟩ : Cond) ∈ lw_g := List.mem_filter.mpr ⟨List.mem_of_getElem? (i := 151) (by decide +kernel), by decide +kernel⟩
theorem wq152 : (.selects "AppletFirewall$Input" ⟨"AppletFirewall$Input", "lc", "()I"⟩ ⟨"AppletFirewall$Input", "lc", "()I"⟩ : Cond) ∈ lw_g := List.mem_filter.mpr ⟨List.mem_of_getElem? (i := 152) (by decide +kernel), by decide +kernel⟩
theorem wq153 : (.code ⟨"AppletFirewall$Input", "lc", "()I"⟩ prog_3_method_10_code 1 (some FieldType.int) : Cond) ∈ lw_g := List.mem_filter.mpr ⟨List.mem_of_getElem? (i := 153) (by decide +kernel), by decide +kernel⟩
theorem wq154 : (.methodLink "AppletFirewall" 116 ⟨"AppletFirewall$Input", "cardClass", "()I"⟩ : Cond) ∈ lw_g := List.mem_filter.mpr ⟨List.mem_of_getElem? (i := 154) (by decide +kernel), by decide +kernel⟩
theorem wq155 : (.instanceMethod ⟨"AppletFirewall$Input", "cardClass", "()I"⟩ : Cond) ∈ lw_g := List.mem_filter.mpr ⟨List.mem_of_getElem? (i := 155) (by decide +kernel), by decide +kernel⟩
theorem wq156 : (.selects "AppletFirewall$Input" ⟨"AppletFirewall$Input", "cardClass", "()I"⟩ ⟨"AppletFirewall$Input", "cardClass", "()I"⟩ : Cond) ∈ lw_g := List.mem_filter.mpr ⟨List.mem_of_getElem? (i := 156) (by decide +kernel), by decide +kernel⟩
theorem wq157 : (.code ⟨"AppletFirewall$Input", "cardClass", "()I"⟩ prog_3_method_6_code 1 (some FieldType.int) : Cond) ∈ lw_g := List.mem_filter.mpr ⟨List.mem_of_getElem? (i := 157) (by decide +kernel), by decide +kernel⟩
theorem wq158 : (.fieldLink "AppletFirewall" 119 "AppletFirewall$Instruction" "UNKNOWN" "LAppletFirewall$Instruction;" : Cond) ∈ lw_g := List.mem_filter.mpr ⟨List.mem_of_getElem? (i := 158) (by decide +kernel), by decide +kernel⟩
theorem wq159 : (.methodLink "AppletFirewall" 123 ⟨"AppletFirewall$Input", "lc", "()I"⟩ : Cond) ∈ lw_g := List.mem_filter.mpr ⟨List.mem_of_getElem? (i := 159) (by decide +kernel), by decide +kernel⟩
theorem wq160 : (.methodLink "AppletFirewall" 126 ⟨"AppletFirewall$Instruction", "takesForm", "(II)Z"⟩ : Cond) ∈ lw_g := List.mem_filter.mpr ⟨List.mem_of_getElem? (i := 160) (by decide +kernel), by decide +kernel⟩
theorem wq161 : (.instanceMethod ⟨"AppletFirewall$Instruction", "takesForm", "(II)Z"⟩ : Cond) ∈ lw_g := List.mem_filter.mpr ⟨List.mem_of_getElem? (i := 161) (by decide +kernel), by decide +kernel⟩
theorem wq162 : (.selects "AppletFirewall$Instruction" ⟨"AppletFirewall$Instruction", "takesForm", "(II)Z"⟩ ⟨"AppletFirewall$Instruction", "takesForm", "(II)Z"⟩ : Cond) ∈ lw_g := List.mem_filter.mpr ⟨List.mem_of_getElem? (i := 162) (by decide +kernel), by decide +kernel⟩
theorem wq163 : (.code ⟨"AppletFirewall$Instruction", "takesForm", "(II)Z"⟩ prog_4_method_5_code 3 (some FieldType.boolean) : Cond) ∈ lw_g := List.mem_filter.mpr ⟨List.mem_of_getElem? (i := 163) (by decide +kernel), by decide +kernel⟩
theorem wq164 : (.methodLink "AppletFirewall" 130 ⟨"AppletFirewall$Input", "p1", "()I"⟩ : Cond) ∈ lw_g := List.mem_filter.mpr ⟨List.mem_of_getElem? (i := 164) (by decide +kernel), by decide +kernel⟩
theorem wq165 : (.instanceMethod ⟨"AppletFirewall$Input", "p1", "()I"⟩ : Cond) ∈ lw_g := List.mem_filter.mpr ⟨List.mem_of_getElem? (i := 165) (by decide +kernel), by decide +kernel⟩
theorem wq166 : (.selects "AppletFirewall$Input" ⟨"AppletFirewall$Input", "p1", "()I"⟩ ⟨"AppletFirewall$Input", "p1", "()I"⟩ : Cond) ∈ lw_g := List.mem_filter.mpr ⟨List.mem_of_getElem? (i := 166) (by decide +kernel), by decide +kernel⟩
theorem wq167 : (.code ⟨"AppletFirewall$Input", "p1", "()I"⟩ prog_3_method_8_code 1 (some FieldType.int) : Cond) ∈ lw_g := List.mem_filter.mpr ⟨List.mem_of_getElem? (i := 167) (by decide +kernel), by decide +kernel⟩
theorem wq168 : (.methodLink "AppletFirewall" 133 ⟨"AppletFirewall$Input", "p2", "()I"⟩ : Cond) ∈ lw_g := List.mem_filter.mpr ⟨List.mem_of_getElem? (i := 168) (by decide +kernel), by decide +kernel⟩
theorem wq169 : (.instanceMethod ⟨"AppletFirewall$Input", "p2", "()I"⟩ : Cond) ∈ lw_g := List.mem_filter.mpr ⟨List.mem_of_getElem? (i := 169) (by decide +kernel), by decide +kernel⟩
theorem wq170 : (.selects "AppletFirewall$Input" ⟨"AppletFirewall$Input", "p2", "()I"⟩ ⟨"AppletFirewall$Input", "p2", "()I"⟩ : Cond) ∈ lw_g := List.mem_filter.mpr ⟨List.mem_of_getElem? (i := 170) (by decide +kernel), by decide +kernel⟩
theorem wq171 : (.code ⟨"AppletFirewall$Input", "p2", "()I"⟩ prog_3_method_9_code 1 (some FieldType.int) : Cond) ∈ lw_g := List.mem_filter.mpr ⟨List.mem_of_getElem? (i := 171) (by decide +kernel), by decide +kernel⟩
theorem wq172 : (.methodLink "AppletFirewall" 136 ⟨"AppletFirewall$Instruction", "takesParameters", "(II)Z"⟩ : Cond) ∈ lw_g := List.mem_filter.mpr ⟨List.mem_of_getElem? (i := 172) (by decide +kernel), by decide +kernel⟩
theorem wq173 : (.instanceMethod ⟨"AppletFirewall$Instruction", "takesParameters", "(II)Z"⟩ : Cond) ∈ lw_g := List.mem_filter.mpr ⟨List.mem_of_getElem? (i := 173) (by decide +kernel), by decide +kernel⟩
theorem wq174 : (.selects "AppletFirewall$Instruction" ⟨"AppletFirewall$Instruction", "takesParameters", "(II)Z"⟩ ⟨"AppletFirewall$Instruction", "takesParameters", "(II)Z"⟩ : Cond) ∈ lw_g := List.mem_filter.mpr ⟨List.mem_of_getElem? (i := 174) (by decide +kernel), by decide +kernel⟩
theorem wq175 : (.code ⟨"AppletFirewall$Instruction", "takesParameters", "(II)Z"⟩ prog_4_method_6_code 3 (some FieldType.boolean) : Cond) ∈ lw_g := List.mem_filter.mpr ⟨List.mem_of_getElem? (i := 175) (by decide +kernel), by decide +kernel⟩
theorem wq176 : (.fieldLink "AppletFirewall" 139 "AppletFirewall$Instruction" "SELECT" "LAppletFirewall$Instruction;" : Cond) ∈ lw_g := List.mem_filter.mpr ⟨List.mem_of_getElem? (i := 176) (by decide +kernel), by decide +kernel⟩
theorem wq178 : (.methodLink "AppletFirewall" 142 ⟨"AppletFirewall$Instruction", "isGuarded", "()Z"⟩ : Cond) ∈ lw_g := List.mem_filter.mpr ⟨List.mem_of_getElem? (i := 178) (by decide +kernel), by decide +kernel⟩
theorem wq179 : (.instanceMethod ⟨"AppletFirewall$Instruction", "isGuarded", "()Z"⟩ : Cond) ∈ lw_g := List.mem_filter.mpr ⟨List.mem_of_getElem? (i := 179) (by decide +kernel), by decide +kernel⟩
theorem wq180 : (.selects "AppletFirewall$Instruction" ⟨"AppletFirewall$Instruction", "isGuarded", "()Z"⟩ ⟨"AppletFirewall$Instruction", "isGuarded", "()Z"⟩ : Cond) ∈ lw_g := List.mem_filter.mpr ⟨List.mem_of_getElem? (i := 180) (by decide +kernel), by decide +kernel⟩
theorem wq181 : (.code ⟨"AppletFirewall$Instruction", "isGuarded", "()Z"⟩ prog_4_method_7_code 1 (some FieldType.boolean) : Cond) ∈ lw_g := List.mem_filter.mpr ⟨List.mem_of_getElem? (i := 181) (by decide +kernel), by decide +kernel⟩
theorem wq182 : (.constant "AppletFirewall" 59 36864 : Cond) ∈ lw_g := List.mem_filter.mpr ⟨List.mem_of_getElem? (i := 182) (by decide +kernel), by decide +kernel⟩
theorem wq183 : (.methodLink "AppletFirewall" 60 ⟨"AppletFirewall", "perform", "(LAppletFirewall$Instruction;)I"⟩ : Cond) ∈ lw_g := List.mem_filter.mpr ⟨List.mem_of_getElem? (i := 183) (by decide +kernel), by decide +kernel⟩
theorem wq185 : (.instanceMethod ⟨"AppletFirewall", "perform", "(LAppletFirewall$Instruction;)I"⟩ : Cond) ∈ lw_g := List.mem_filter.mpr ⟨List.mem_of_getElem? (i := 185) (by decide +kernel), by decide +kernel⟩
theorem wq186 : (.code ⟨"AppletFirewall", "perform", "(LAppletFirewall$Instruction;)I"⟩ prog_1_method_18_code 2 (some FieldType.int) : Cond) ∈ lw_g := List.mem_filter.mpr ⟨List.mem_of_getElem? (i := 186) (by decide +kernel), by decide +kernel⟩
theorem wq187 : (.fieldLink "AppletFirewall" 145 "AppletFirewall$1" "$SwitchMap$AppletFirewall$Instruction" "[I" : Cond) ∈ lw_g := List.mem_filter.mpr ⟨List.mem_of_getElem? (i := 187) (by decide +kernel), by decide +kernel⟩
theorem wq189 : (.methodLink "AppletFirewall" 150 ⟨"AppletFirewall$Instruction", "ordinal", "()I"⟩ : Cond) ∈ lw_g := List.mem_filter.mpr ⟨List.mem_of_getElem? (i := 189) (by decide +kernel), by decide +kernel⟩
theorem wq190 : (.sameMethod "AppletFirewall$Instruction" "java/lang/Enum" "ordinal" "()I" : Cond) ∈ lw_g := List.mem_filter.mpr ⟨List.mem_of_getElem? (i := 190) (by decide +kernel), by decide +kernel⟩
theorem wq192 : (.selects "AppletFirewall$Instruction" ⟨"AppletFirewall$Instruction", "ordinal", "()I"⟩ ⟨"java/lang/Enum", "ordinal", "()I"⟩ : Cond) ∈ lw_g := List.mem_filter.mpr ⟨List.mem_of_getElem? (i := 192) (by decide +kernel), by decide +kernel⟩
theorem wq193 : (.instanceMethod ⟨"java/lang/Enum", "ordinal", "()I"⟩ : Cond) ∈ lw_g := List.mem_filter.mpr ⟨List.mem_of_getElem? (i := 193) (by decide +kernel), by decide +kernel⟩
theorem wq194 : (.code ⟨"java/lang/Enum", "ordinal", "()I"⟩ prog_8_method_2_code 1 (some FieldType.int) : Cond) ∈ lw_g := List.mem_filter.mpr ⟨List.mem_of_getElem? (i := 194) (by decide +kernel), by decide +kernel⟩
theorem wq195 : (.methodLink "AppletFirewall" 153 ⟨"AppletFirewall", "select", "()I"⟩ : Cond) ∈ lw_g := List.mem_filter.mpr ⟨List.mem_of_getElem? (i := 195) (by decide +kernel), by decide +kernel⟩
theorem wq197 : (.instanceMethod ⟨"AppletFirewall", "select", "()I"⟩ : Cond) ∈ lw_g := List.mem_filter.mpr ⟨List.mem_of_getElem? (i := 197) (by decide +kernel), by decide +kernel⟩
theorem wq198 : (.code ⟨"AppletFirewall", "select", "()I"⟩ prog_1_method_19_code 2 (some FieldType.int) : Cond) ∈ lw_g := List.mem_filter.mpr ⟨List.mem_of_getElem? (i := 198) (by decide +kernel), by decide +kernel⟩
theorem wq199 : (.methodLink "AppletFirewall" 192 ⟨"AppletFirewall$Input", "payload", "(I)I"⟩ : Cond) ∈ lw_g := List.mem_filter.mpr ⟨List.mem_of_getElem? (i := 199) (by decide +kernel), by decide +kernel⟩
theorem wq200 : (.instanceMethod ⟨"AppletFirewall$Input", "payload", "(I)I"⟩ : Cond) ∈ lw_g := List.mem_filter.mpr ⟨List.mem_of_getElem? (i := 200) (by decide +kernel), by decide +kernel⟩
theorem wq201 : (.selects "AppletFirewall$Input" ⟨"AppletFirewall$Input", "payload", "(I)I"⟩ ⟨"AppletFirewall$Input", "payload", "(I)I"⟩ : Cond) ∈ lw_g := List.mem_filter.mpr ⟨List.mem_of_getElem? (i := 201) (by decide +kernel), by decide +kernel⟩
theorem wq202 : (.code ⟨"AppletFirewall$Input", "payload", "(I)I"⟩ prog_3_method_12_code 2 (some FieldType.int) : Cond) ∈ lw_g := List.mem_filter.mpr ⟨List.mem_of_getElem? (i := 202) (by decide +kernel), by decide +kernel⟩
theorem wq203 : (.methodLink "AppletFirewall" 89 ⟨"AppletFirewall", "isApplet", "(I)Z"⟩ : Cond) ∈ lw_g := List.mem_filter.mpr ⟨List.mem_of_getElem? (i := 203) (by decide +kernel), by decide +kernel⟩
theorem wq204 : (.static ⟨"AppletFirewall", "isApplet", "(I)Z"⟩ : Cond) ∈ lw_g := List.mem_filter.mpr ⟨List.mem_of_getElem? (i := 204) (by decide +kernel), by decide +kernel⟩
theorem wq205 : (.code ⟨"AppletFirewall", "isApplet", "(I)Z"⟩ prog_1_method_39_code 1 (some FieldType.boolean) : Cond) ∈ lw_g := List.mem_filter.mpr ⟨List.mem_of_getElem? (i := 205) (by decide +kernel), by decide +kernel⟩
theorem wq206 : (.methodLink "AppletFirewall" 82 ⟨"AppletFirewall$Memory", "undo", "()Z"⟩ : Cond) ∈ lw_g := List.mem_filter.mpr ⟨List.mem_of_getElem? (i := 206) (by decide +kernel), by decide +kernel⟩
theorem wq207 : (.instanceMethod ⟨"AppletFirewall$Memory", "undo", "()Z"⟩ : Cond) ∈ lw_g := List.mem_filter.mpr ⟨List.mem_of_getElem? (i := 207) (by decide +kernel), by decide +kernel⟩
theorem wq208 : (.selects "AppletFirewall$Memory" ⟨"AppletFirewall$Memory", "undo", "()Z"⟩ ⟨"AppletFirewall$Memory", "undo", "()Z"⟩ : Cond) ∈ lw_g := List.mem_filter.mpr ⟨List.mem_of_getElem? (i := 208) (by decide +kernel), by decide +kernel⟩
theorem wq209 : (.code ⟨"AppletFirewall$Memory", "undo", "()Z"⟩ prog_5_method_9_code 3 (some FieldType.boolean) : Cond) ∈ lw_g := List.mem_filter.mpr ⟨List.mem_of_getElem? (i := 209) (by decide +kernel), by decide +kernel⟩
theorem wq210 : (.methodLink "AppletFirewall$Memory" 25 ⟨"AppletFirewall$Memory", "count", "()I"⟩ : Cond) ∈ lw_g := List.mem_filter.mpr ⟨List.mem_of_getElem? (i := 210) (by decide +kernel), by decide +kernel⟩
theorem wq211 : (.instanceMethod ⟨"AppletFirewall$Memory", "count", "()I"⟩ : Cond) ∈ lw_g := List.mem_filter.mpr ⟨List.mem_of_getElem? (i := 211) (by decide +kernel), by decide +kernel⟩
theorem wq212 : (.selects "AppletFirewall$Memory" ⟨"AppletFirewall$Memory", "count", "()I"⟩ ⟨"AppletFirewall$Memory", "count", "()I"⟩ : Cond) ∈ lw_g := List.mem_filter.mpr ⟨List.mem_of_getElem? (i := 212) (by decide +kernel), by decide +kernel⟩
theorem wq213 : (.code ⟨"AppletFirewall$Memory", "count", "()I"⟩ prog_5_method_3_code 1 (some FieldType.int) : Cond) ∈ lw_g := List.mem_filter.mpr ⟨List.mem_of_getElem? (i := 213) (by decide +kernel), by decide +kernel⟩
theorem wq214 : (.methodLink "AppletFirewall$Memory" 29 ⟨"AppletFirewall$Memory", "write", "(II)Z"⟩ : Cond) ∈ lw_g := List.mem_filter.mpr ⟨List.mem_of_getElem? (i := 214) (by decide +kernel), by decide +kernel⟩
theorem wq215 : (.instanceMethod ⟨"AppletFirewall$Memory", "write", "(II)Z"⟩ : Cond) ∈ lw_g := List.mem_filter.mpr ⟨List.mem_of_getElem? (i := 215) (by decide +kernel), by decide +kernel⟩
theorem wq216 : (.selects "AppletFirewall$Memory" ⟨"AppletFirewall$Memory", "write", "(II)Z"⟩ ⟨"AppletFirewall$Memory", "write", "(II)Z"⟩ : Cond) ∈ lw_g := List.mem_filter.mpr ⟨List.mem_of_getElem? (i := 216) (by decide +kernel), by decide +kernel⟩
theorem wq217 : (.code ⟨"AppletFirewall$Memory", "write", "(II)Z"⟩ prog_5_method_7_code 3 (some FieldType.boolean) : Cond) ∈ lw_g := List.mem_filter.mpr ⟨List.mem_of_getElem? (i := 217) (by decide +kernel), by decide +kernel⟩
theorem wq218 : (.methodLink "AppletFirewall$Memory" 33 ⟨"AppletFirewall$Memory", "settle", "()Z"⟩ : Cond) ∈ lw_g := List.mem_filter.mpr ⟨List.mem_of_getElem? (i := 218) (by decide +kernel), by decide +kernel⟩
theorem wq219 : (.instanceMethod ⟨"AppletFirewall$Memory", "settle", "()Z"⟩ : Cond) ∈ lw_g := List.mem_filter.mpr ⟨List.mem_of_getElem? (i := 219) (by decide +kernel), by decide +kernel⟩
theorem wq220 : (.selects "AppletFirewall$Memory" ⟨"AppletFirewall$Memory", "settle", "()Z"⟩ ⟨"AppletFirewall$Memory", "settle", "()Z"⟩ : Cond) ∈ lw_g := List.mem_filter.mpr ⟨List.mem_of_getElem? (i := 220) (by decide +kernel), by decide +kernel⟩
theorem wq221 : (.code ⟨"AppletFirewall$Memory", "settle", "()Z"⟩ prog_5_method_10_code 1 (some FieldType.boolean) : Cond) ∈ lw_g := List.mem_filter.mpr ⟨List.mem_of_getElem? (i := 221) (by decide +kernel), by decide +kernel⟩
theorem wq222 : (.methodLink "AppletFirewall" 101 ⟨"AppletFirewall", "triesPlace", "(I)I"⟩ : Cond) ∈ lw_g := List.mem_filter.mpr ⟨List.mem_of_getElem? (i := 222) (by decide +kernel), by decide +kernel⟩
theorem wq223 : (.static ⟨"AppletFirewall", "triesPlace", "(I)I"⟩ : Cond) ∈ lw_g := List.mem_filter.mpr ⟨List.mem_of_getElem? (i := 223) (by decide +kernel), by decide +kernel⟩
theorem wq224 : (.code ⟨"AppletFirewall", "triesPlace", "(I)I"⟩ prog_1_method_42_code 1 (some FieldType.int) : Cond) ∈ lw_g := List.mem_filter.mpr ⟨List.mem_of_getElem? (i := 224) (by decide +kernel), by decide +kernel⟩
theorem wq225 : (.methodLink "AppletFirewall" 195 ⟨"AppletFirewall", "respond", "(II)I"⟩ : Cond) ∈ lw_g := List.mem_filter.mpr ⟨List.mem_of_getElem? (i := 225) (by decide +kernel), by decide +kernel⟩
theorem wq227 : (.instanceMethod ⟨"AppletFirewall", "respond", "(II)I"⟩ : Cond) ∈ lw_g := List.mem_filter.mpr ⟨List.mem_of_getElem? (i := 227) (by decide +kernel), by decide +kernel⟩
theorem wq228 : (.code ⟨"AppletFirewall", "respond", "(II)I"⟩ prog_1_method_31_code 4 (some FieldType.int) : Cond) ∈ lw_g := List.mem_filter.mpr ⟨List.mem_of_getElem? (i := 228) (by decide +kernel), by decide +kernel⟩
theorem wq229 : (.methodLink "AppletFirewall" 97 ⟨"AppletFirewall$Memory", "at", "(I)I"⟩ : Cond) ∈ lw_g := List.mem_filter.mpr ⟨List.mem_of_getElem? (i := 229) (by decide +kernel), by decide +kernel⟩
theorem wq230 : (.instanceMethod ⟨"AppletFirewall$Memory", "at", "(I)I"⟩ : Cond) ∈ lw_g := List.mem_filter.mpr ⟨List.mem_of_getElem? (i := 230) (by decide +kernel), by decide +kernel⟩
theorem wq231 : (.selects "AppletFirewall$Memory" ⟨"AppletFirewall$Memory", "at", "(I)I"⟩ ⟨"AppletFirewall$Memory", "at", "(I)I"⟩ : Cond) ∈ lw_g := List.mem_filter.mpr ⟨List.mem_of_getElem? (i := 231) (by decide +kernel), by decide +kernel⟩
theorem wq232 : (.code ⟨"AppletFirewall$Memory", "at", "(I)I"⟩ prog_5_method_2_code 2 (some FieldType.int) : Cond) ∈ lw_g := List.mem_filter.mpr ⟨List.mem_of_getElem? (i := 232) (by decide +kernel), by decide +kernel⟩
theorem wq233 : (.methodLink "AppletFirewall" 156 ⟨"AppletFirewall", "verify", "()I"⟩ : Cond) ∈ lw_g := List.mem_filter.mpr ⟨List.mem_of_getElem? (i := 233) (by decide +kernel), by decide +kernel⟩
theorem wq235 : (.instanceMethod ⟨"AppletFirewall", "verify", "()I"⟩ : Cond) ∈ lw_g := List.mem_filter.mpr ⟨List.mem_of_getElem? (i := 235) (by decide +kernel), by decide +kernel⟩
theorem wq236 : (.code ⟨"AppletFirewall", "verify", "()I"⟩ prog_1_method_20_code 3 (some FieldType.int) : Cond) ∈ lw_g := List.mem_filter.mpr ⟨List.mem_of_getElem? (i := 236) (by decide +kernel), by decide +kernel⟩
theorem wq237 : (.methodLink "AppletFirewall" 198 ⟨"AppletFirewall$Memory", "write", "(II)Z"⟩ : Cond) ∈ lw_g := List.mem_filter.mpr ⟨List.mem_of_getElem? (i := 237) (by decide +kernel), by decide +kernel⟩
theorem wq238 : (.methodLink "AppletFirewall" 201 ⟨"AppletFirewall", "payloadIsSecret", "()Z"⟩ : Cond) ∈ lw_g := List.mem_filter.mpr ⟨List.mem_of_getElem? (i := 238) (by decide +kernel), by decide +kernel⟩
theorem wq240 : (.instanceMethod ⟨"AppletFirewall", "payloadIsSecret", "()Z"⟩ : Cond) ∈ lw_g := List.mem_filter.mpr ⟨List.mem_of_getElem? (i := 240) (by decide +kernel), by decide +kernel⟩
theorem wq241 : (.code ⟨"AppletFirewall", "payloadIsSecret", "()Z"⟩ prog_1_method_21_code 3 (some FieldType.boolean) : Cond) ∈ lw_g := List.mem_filter.mpr ⟨List.mem_of_getElem? (i := 241) (by decide +kernel), by decide +kernel⟩
theorem wq242 : (.methodLink "AppletFirewall" 159 ⟨"AppletFirewall", "secretPlace", "(I)I"⟩ : Cond) ∈ lw_g := List.mem_filter.mpr ⟨List.mem_of_getElem? (i := 242) (by decide +kernel), by decide +kernel⟩
theorem wq243 : (.static ⟨"AppletFirewall", "secretPlace", "(I)I"⟩ : Cond) ∈ lw_g := List.mem_filter.mpr ⟨List.mem_of_getElem? (i := 243) (by decide +kernel), by decide +kernel⟩
theorem wq244 : (.code ⟨"AppletFirewall", "secretPlace", "(I)I"⟩ prog_1_method_41_code 1 (some FieldType.int) : Cond) ∈ lw_g := List.mem_filter.mpr ⟨List.mem_of_getElem? (i := 244) (by decide +kernel), by decide +kernel⟩
theorem wq245 : (.methodLink "AppletFirewall" 162 ⟨"AppletFirewall", "storePayload", "(I)I"⟩ : Cond) ∈ lw_g := List.mem_filter.mpr ⟨List.mem_of_getElem? (i := 245) (by decide +kernel), by decide +kernel⟩
theorem wq247 : (.instanceMethod ⟨"AppletFirewall", "storePayload", "(I)I"⟩ : Cond) ∈ lw_g := List.mem_filter.mpr ⟨List.mem_of_getElem? (i := 247) (by decide +kernel), by decide +kernel⟩
theorem wq248 : (.code ⟨"AppletFirewall", "storePayload", "(I)I"⟩ prog_1_method_32_code 2 (some FieldType.int) : Cond) ∈ lw_g := List.mem_filter.mpr ⟨List.mem_of_getElem? (i := 248) (by decide +kernel), by decide +kernel⟩
theorem wq249 : (.methodLink "AppletFirewall" 230 ⟨"AppletFirewall$Input", "row", "()[I"⟩ : Cond) ∈ lw_g := List.mem_filter.mpr ⟨List.mem_of_getElem? (i := 249) (by decide +kernel), by decide +kernel⟩
theorem wq250 : (.instanceMethod ⟨"AppletFirewall$Input", "row", "()[I"⟩ : Cond) ∈ lw_g := List.mem_filter.mpr ⟨List.mem_of_getElem? (i := 250) (by decide +kernel), by decide +kernel⟩
theorem wq251 : (.selects "AppletFirewall$Input" ⟨"AppletFirewall$Input", "row", "()[I"⟩ ⟨"AppletFirewall$Input", "row", "()[I"⟩ : Cond) ∈ lw_g := List.mem_filter.mpr ⟨List.mem_of_getElem? (i := 251) (by decide +kernel), by decide +kernel⟩
theorem wq252 : (.code ⟨"AppletFirewall$Input", "row", "()[I"⟩ prog_3_method_13_code 1 (some (FieldType.array FieldType.int)) : Cond) ∈ lw_g := List.mem_filter.mpr ⟨List.mem_of_getElem? (i := 252) (by decide +kernel), by decide +kernel⟩
theorem wq253 : (.methodLink "AppletFirewall" 220 ⟨"AppletFirewall", "store", "(I[III)I"⟩ : Cond) ∈ lw_g := List.mem_filter.mpr ⟨List.mem_of_getElem? (i := 253) (by decide +kernel), by decide +kernel⟩
theorem wq255 : (.instanceMethod ⟨"AppletFirewall", "store", "(I[III)I"⟩ : Cond) ∈ lw_g := List.mem_filter.mpr ⟨List.mem_of_getElem? (i := 255) (by decide +kernel), by decide +kernel⟩
theorem wq256 : (.code ⟨"AppletFirewall", "store", "(I[III)I"⟩ prog_1_method_33_code 6 (some FieldType.int) : Cond) ∈ lw_g := List.mem_filter.mpr ⟨List.mem_of_getElem? (i := 256) (by decide +kernel), by decide +kernel⟩
theorem wq257 : (.methodLink "AppletFirewall" 79 ⟨"AppletFirewall$Memory", "count", "()I"⟩ : Cond) ∈ lw_g := List.mem_filter.mpr ⟨List.mem_of_getElem? (i := 257) (by decide +kernel), by decide +kernel⟩
theorem wq258 : (.methodLink "AppletFirewall" 234 ⟨"AppletFirewall$Memory", "change", "(II)Z"⟩ : Cond) ∈ lw_g := List.mem_filter.mpr ⟨List.mem_of_getElem? (i := 258) (by decide +kernel), by decide +kernel⟩
theorem wq259 : (.instanceMethod ⟨"AppletFirewall$Memory", "change", "(II)Z"⟩ : Cond) ∈ lw_g := List.mem_filter.mpr ⟨List.mem_of_getElem? (i := 259) (by decide +kernel), by decide +kernel⟩
theorem wq260 : (.selects "AppletFirewall$Memory" ⟨"AppletFirewall$Memory", "change", "(II)Z"⟩ ⟨"AppletFirewall$Memory", "change", "(II)Z"⟩ : Cond) ∈ lw_g := List.mem_filter.mpr ⟨List.mem_of_getElem? (i := 260) (by decide +kernel), by decide +kernel⟩
theorem wq261 : (.code ⟨"AppletFirewall$Memory", "change", "(II)Z"⟩ prog_5_method_8_code 4 (some FieldType.boolean) : Cond) ∈ lw_g := List.mem_filter.mpr ⟨List.mem_of_getElem? (i := 261) (by decide +kernel), by decide +kernel⟩
theorem wq262 : (.methodLink "AppletFirewall" 211 ⟨"AppletFirewall$Memory", "settle", "()Z"⟩ : Cond) ∈ lw_g := List.mem_filter.mpr ⟨List.mem_of_getElem? (i := 262) (by decide +kernel), by decide +kernel⟩
theorem wq263 : (.methodLink "AppletFirewall" 204 ⟨"AppletFirewall", "doneIf", "(Z)I"⟩ : Cond) ∈ lw_g := List.mem_filter.mpr ⟨List.mem_of_getElem? (i := 263) (by decide +kernel), by decide +kernel⟩
theorem wq264 : (.static ⟨"AppletFirewall", "doneIf", "(Z)I"⟩ : Cond) ∈ lw_g := List.mem_filter.mpr ⟨List.mem_of_getElem? (i := 264) (by decide +kernel), by decide +kernel⟩
theorem wq265 : (.code ⟨"AppletFirewall", "doneIf", "(Z)I"⟩ prog_1_method_34_code 1 (some FieldType.int) : Cond) ∈ lw_g := List.mem_filter.mpr ⟨List.mem_of_getElem? (i := 265) (by decide +kernel), by decide +kernel⟩
theorem wq266 : (.methodLink "AppletFirewall" 165 ⟨"AppletFirewall", "unblock", "()I"⟩ : Cond) ∈ lw_g := List.mem_filter.mpr ⟨List.mem_of_getElem? (i := 266) (by decide +kernel), by decide +kernel⟩
theorem wq268 : (.instanceMethod ⟨"AppletFirewall", "unblock", "()I"⟩ : Cond) ∈ lw_g := List.mem_filter.mpr ⟨List.mem_of_getElem? (i := 268) (by decide +kernel), by decide +kernel⟩
theorem wq269 : (.code ⟨"AppletFirewall", "unblock", "()I"⟩ prog_1_method_22_code 1 (some FieldType.int) : Cond) ∈ lw_g := List.mem_filter.mpr ⟨List.mem_of_getElem? (i := 269) (by decide +kernel), by decide +kernel⟩
theorem wq270 : (.methodLink "AppletFirewall" 168 ⟨"AppletFirewall", "read", "()I"⟩ : Cond) ∈ lw_g := List.mem_filter.mpr ⟨List.mem_of_getElem? (i := 270) (by decide +kernel), by decide +kernel⟩
theorem wq272 : (.instanceMethod ⟨"AppletFirewall", "read", "()I"⟩ : Cond) ∈ lw_g := List.mem_filter.mpr ⟨List.mem_of_getElem? (i := 272) (by decide +kernel), by decide +kernel⟩
theorem wq273 : (.code ⟨"AppletFirewall", "read", "()I"⟩ prog_1_method_23_code 1 (some FieldType.int) : Cond) ∈ lw_g := List.mem_filter.mpr ⟨List.mem_of_getElem? (i := 273) (by decide +kernel), by decide +kernel⟩
theorem wq274 : (.methodLink "AppletFirewall" 208 ⟨"AppletFirewall$Input", "le", "()I"⟩ : Cond) ∈ lw_g := List.mem_filter.mpr ⟨List.mem_of_getElem? (i := 274) (by decide +kernel), by decide +kernel⟩
theorem wq275 : (.instanceMethod ⟨"AppletFirewall$Input", "le", "()I"⟩ : Cond) ∈ lw_g := List.mem_filter.mpr ⟨List.mem_of_getElem? (i := 275) (by decide +kernel), by decide +kernel⟩
theorem wq276 : (.selects "AppletFirewall$Input" ⟨"AppletFirewall$Input", "le", "()I"⟩ ⟨"AppletFirewall$Input", "le", "()I"⟩ : Cond) ∈ lw_g := List.mem_filter.mpr ⟨List.mem_of_getElem? (i := 276) (by decide +kernel), by decide +kernel⟩
theorem wq277 : (.code ⟨"AppletFirewall$Input", "le", "()I"⟩ prog_3_method_11_code 1 (some FieldType.int) : Cond) ∈ lw_g := List.mem_filter.mpr ⟨List.mem_of_getElem? (i := 277) (by decide +kernel), by decide +kernel⟩
theorem wq278 : (.methodLink "AppletFirewall" 93 ⟨"AppletFirewall", "dataPlace", "(II)I"⟩ : Cond) ∈ lw_g := List.mem_filter.mpr ⟨List.mem_of_getElem? (i := 278) (by decide +kernel), by decide +kernel⟩
theorem wq279 : (.static ⟨"AppletFirewall", "dataPlace", "(II)I"⟩ : Cond) ∈ lw_g := List.mem_filter.mpr ⟨List.mem_of_getElem? (i := 279) (by decide +kernel), by decide +kernel⟩
theorem wq280 : (.code ⟨"AppletFirewall", "dataPlace", "(II)I"⟩ prog_1_method_40_code 2 (some FieldType.int) : Cond) ∈ lw_g := List.mem_filter.mpr ⟨List.mem_of_getElem? (i := 280) (by decide +kernel), by decide +kernel⟩
theorem wq281 : (.methodLink "AppletFirewall" 171 ⟨"AppletFirewall", "update", "()I"⟩ : Cond) ∈ lw_g := List.mem_filter.mpr ⟨List.mem_of_getElem? (i := 281) (by decide +kernel), by decide +kernel⟩
theorem wq283 : (.instanceMethod ⟨"AppletFirewall", "update", "()I"⟩ : Cond) ∈ lw_g := List.mem_filter.mpr ⟨List.mem_of_getElem? (i := 283) (by decide +kernel), by decide +kernel⟩
theorem wq284 : (.code ⟨"AppletFirewall", "update", "()I"⟩ prog_1_method_24_code 1 (some FieldType.int) : Cond) ∈ lw_g := List.mem_filter.mpr ⟨List.mem_of_getElem? (i := 284) (by decide +kernel), by decide +kernel⟩
theorem wq285 : (.methodLink "AppletFirewall" 174 ⟨"AppletFirewall", "begin", "()I"⟩ : Cond) ∈ lw_g := List.mem_filter.mpr ⟨List.mem_of_getElem? (i := 285) (by decide +kernel), by decide +kernel⟩
theorem wq287 : (.instanceMethod ⟨"AppletFirewall", "begin", "()I"⟩ : Cond) ∈ lw_g := List.mem_filter.mpr ⟨List.mem_of_getElem? (i := 287) (by decide +kernel), by decide +kernel⟩
theorem wq288 : (.code ⟨"AppletFirewall", "begin", "()I"⟩ prog_1_method_25_code 1 (some FieldType.int) : Cond) ∈ lw_g := List.mem_filter.mpr ⟨List.mem_of_getElem? (i := 288) (by decide +kernel), by decide +kernel⟩
theorem wq289 : (.methodLink "AppletFirewall" 177 ⟨"AppletFirewall", "end", "()I"⟩ : Cond) ∈ lw_g := List.mem_filter.mpr ⟨List.mem_of_getElem? (i := 289) (by decide +kernel), by decide +kernel⟩
theorem wq291 : (.instanceMethod ⟨"AppletFirewall", "end", "()I"⟩ : Cond) ∈ lw_g := List.mem_filter.mpr ⟨List.mem_of_getElem? (i := 291) (by decide +kernel), by decide +kernel⟩
theorem wq292 : (.code ⟨"AppletFirewall", "end", "()I"⟩ prog_1_method_26_code 2 (some FieldType.int) : Cond) ∈ lw_g := List.mem_filter.mpr ⟨List.mem_of_getElem? (i := 292) (by decide +kernel), by decide +kernel⟩
theorem wq293 : (.methodLink "AppletFirewall" 180 ⟨"AppletFirewall", "grant", "()I"⟩ : Cond) ∈ lw_g := List.mem_filter.mpr ⟨List.mem_of_getElem? (i := 293) (by decide +kernel), by decide +kernel⟩
theorem wq295 : (.instanceMethod ⟨"AppletFirewall", "grant", "()I"⟩ : Cond) ∈ lw_g := List.mem_filter.mpr ⟨List.mem_of_getElem? (i := 295) (by decide +kernel), by decide +kernel⟩
theorem wq296 : (.code ⟨"AppletFirewall", "grant", "()I"⟩ prog_1_method_27_code 6 (some FieldType.int) : Cond) ∈ lw_g := List.mem_filter.mpr ⟨List.mem_of_getElem? (i := 296) (by decide +kernel), by decide +kernel⟩
theorem wq297 : (.methodLink "AppletFirewall" 214 ⟨"AppletFirewall", "ownerOf", "(I)I"⟩ : Cond) ∈ lw_g := List.mem_filter.mpr ⟨List.mem_of_getElem? (i := 297) (by decide +kernel), by decide +kernel⟩
theorem wq299 : (.instanceMethod ⟨"AppletFirewall", "ownerOf", "(I)I"⟩ : Cond) ∈ lw_g := List.mem_filter.mpr ⟨List.mem_of_getElem? (i := 299) (by decide +kernel), by decide +kernel⟩
theorem wq300 : (.code ⟨"AppletFirewall", "ownerOf", "(I)I"⟩ prog_1_method_35_code 3 (some FieldType.int) : Cond) ∈ lw_g := List.mem_filter.mpr ⟨List.mem_of_getElem? (i := 300) (by decide +kernel), by decide +kernel⟩
theorem wq301 : (.methodLink "AppletFirewall" 104 ⟨"AppletFirewall", "shareByte", "(II)I"⟩ : Cond) ∈ lw_g := List.mem_filter.mpr ⟨List.mem_of_getElem? (i := 301) (by decide +kernel), by decide +kernel⟩
theorem wq303 : (.instanceMethod ⟨"AppletFirewall", "shareByte", "(II)I"⟩ : Cond) ∈ lw_g := List.mem_filter.mpr ⟨List.mem_of_getElem? (i := 303) (by decide +kernel), by decide +kernel⟩
theorem wq304 : (.code ⟨"AppletFirewall", "shareByte", "(II)I"⟩ prog_1_method_37_code 3 (some FieldType.int) : Cond) ∈ lw_g := List.mem_filter.mpr ⟨List.mem_of_getElem? (i := 304) (by decide +kernel), by decide +kernel⟩
theorem wq305 : (.methodLink "AppletFirewall" 217 ⟨"AppletFirewall", "sharePlace", "(I)I"⟩ : Cond) ∈ lw_g := List.mem_filter.mpr ⟨List.mem_of_getElem? (i := 305) (by decide +kernel), by decide +kernel⟩
theorem wq306 : (.static ⟨"AppletFirewall", "sharePlace", "(I)I"⟩ : Cond) ∈ lw_g := List.mem_filter.mpr ⟨List.mem_of_getElem? (i := 306) (by decide +kernel), by decide +kernel⟩
theorem wq307 : (.code ⟨"AppletFirewall", "sharePlace", "(I)I"⟩ prog_1_method_43_code 1 (some FieldType.int) : Cond) ∈ lw_g := List.mem_filter.mpr ⟨List.mem_of_getElem? (i := 307) (by decide +kernel), by decide +kernel⟩
theorem wq308 : (.methodLink "AppletFirewall" 183 ⟨"AppletFirewall", "revoke", "()I"⟩ : Cond) ∈ lw_g := List.mem_filter.mpr ⟨List.mem_of_getElem? (i := 308) (by decide +kernel), by decide +kernel⟩
theorem wq310 : (.instanceMethod ⟨"AppletFirewall", "revoke", "()I"⟩ : Cond) ∈ lw_g := List.mem_filter.mpr ⟨List.mem_of_getElem? (i := 310) (by decide +kernel), by decide +kernel⟩
theorem wq311 : (.code ⟨"AppletFirewall", "revoke", "()I"⟩ prog_1_method_28_code 2 (some FieldType.int) : Cond) ∈ lw_g := List.mem_filter.mpr ⟨List.mem_of_getElem? (i := 311) (by decide +kernel), by decide +kernel⟩
theorem wq312 : (.methodLink "AppletFirewall" 186 ⟨"AppletFirewall", "readShared", "()I"⟩ : Cond) ∈ lw_g := List.mem_filter.mpr ⟨List.mem_of_getElem? (i := 312) (by decide +kernel), by decide +kernel⟩
theorem wq314 : (.instanceMethod ⟨"AppletFirewall", "readShared", "()I"⟩ : Cond) ∈ lw_g := List.mem_filter.mpr ⟨List.mem_of_getElem? (i := 314) (by decide +kernel), by decide +kernel⟩
theorem wq315 : (.code ⟨"AppletFirewall", "readShared", "()I"⟩ prog_1_method_29_code 2 (some FieldType.int) : Cond) ∈ lw_g := List.mem_filter.mpr ⟨List.mem_of_getElem? (i := 315) (by decide +kernel), by decide +kernel⟩
theorem wq316 : (.methodLink "AppletFirewall" 224 ⟨"AppletFirewall", "clientOf", "(I)I"⟩ : Cond) ∈ lw_g := List.mem_filter.mpr ⟨List.mem_of_getElem? (i := 316) (by decide +kernel), by decide +kernel⟩
theorem wq318 : (.instanceMethod ⟨"AppletFirewall", "clientOf", "(I)I"⟩ : Cond) ∈ lw_g := List.mem_filter.mpr ⟨List.mem_of_getElem? (i := 318) (by decide +kernel), by decide +kernel⟩
theorem wq319 : (.code ⟨"AppletFirewall", "clientOf", "(I)I"⟩ prog_1_method_36_code 3 (some FieldType.int) : Cond) ∈ lw_g := List.mem_filter.mpr ⟨List.mem_of_getElem? (i := 319) (by decide +kernel), by decide +kernel⟩
theorem wq320 : (.methodLink "AppletFirewall" 227 ⟨"AppletFirewall", "sharedPlace", "(II)I"⟩ : Cond) ∈ lw_g := List.mem_filter.mpr ⟨List.mem_of_getElem? (i := 320) (by decide +kernel), by decide +kernel⟩
theorem wq322 : (.instanceMethod ⟨"AppletFirewall", "sharedPlace", "(II)I"⟩ : Cond) ∈ lw_g := List.mem_filter.mpr ⟨List.mem_of_getElem? (i := 322) (by decide +kernel), by decide +kernel⟩
theorem wq323 : (.code ⟨"AppletFirewall", "sharedPlace", "(II)I"⟩ prog_1_method_38_code 3 (some FieldType.int) : Cond) ∈ lw_g := List.mem_filter.mpr ⟨List.mem_of_getElem? (i := 323) (by decide +kernel), by decide +kernel⟩
theorem wq324 : (.methodLink "AppletFirewall" 189 ⟨"AppletFirewall", "updateShared", "()I"⟩ : Cond) ∈ lw_g := List.mem_filter.mpr ⟨List.mem_of_getElem? (i := 324) (by decide +kernel), by decide +kernel⟩
theorem wq326 : (.instanceMethod ⟨"AppletFirewall", "updateShared", "()I"⟩ : Cond) ∈ lw_g := List.mem_filter.mpr ⟨List.mem_of_getElem? (i := 326) (by decide +kernel), by decide +kernel⟩
theorem wq327 : (.code ⟨"AppletFirewall", "updateShared", "()I"⟩ prog_1_method_30_code 2 (some FieldType.int) : Cond) ∈ lw_g := List.mem_filter.mpr ⟨List.mem_of_getElem? (i := 327) (by decide +kernel), by decide +kernel⟩
theorem wq328 : (.methodLink "AppletFirewall" 63 ⟨"AppletFirewall$Input", "clear", "()V"⟩ : Cond) ∈ lw_g := List.mem_filter.mpr ⟨List.mem_of_getElem? (i := 328) (by decide +kernel), by decide +kernel⟩
theorem wq329 : (.instanceMethod ⟨"AppletFirewall$Input", "clear", "()V"⟩ : Cond) ∈ lw_g := List.mem_filter.mpr ⟨List.mem_of_getElem? (i := 329) (by decide +kernel), by decide +kernel⟩
theorem wq330 : (.selects "AppletFirewall$Input" ⟨"AppletFirewall$Input", "clear", "()V"⟩ ⟨"AppletFirewall$Input", "clear", "()V"⟩ : Cond) ∈ lw_g := List.mem_filter.mpr ⟨List.mem_of_getElem? (i := 330) (by decide +kernel), by decide +kernel⟩
theorem wq331 : (.code ⟨"AppletFirewall$Input", "clear", "()V"⟩ prog_3_method_3_code 1 none : Cond) ∈ lw_g := List.mem_filter.mpr ⟨List.mem_of_getElem? (i := 331) (by decide +kernel), by decide +kernel⟩
theorem wq332 : (.methodLink "AppletFirewall" 66 ⟨"AppletFirewall", "switchOff", "()V"⟩ : Cond) ∈ lw_g := List.mem_filter.mpr ⟨List.mem_of_getElem? (i := 332) (by decide +kernel), by decide +kernel⟩
theorem wq334 : (.instanceMethod ⟨"AppletFirewall", "switchOff", "()V"⟩ : Cond) ∈ lw_g := List.mem_filter.mpr ⟨List.mem_of_getElem? (i := 334) (by decide +kernel), by decide +kernel⟩
theorem wq335 : (.code ⟨"AppletFirewall", "switchOff", "()V"⟩ prog_1_method_16_code 1 none : Cond) ∈ lw_g := List.mem_filter.mpr ⟨List.mem_of_getElem? (i := 335) (by decide +kernel), by decide +kernel⟩
theorem wq340 : (.methodLink "AppletFirewall" 69 ⟨"AppletFirewall$Input", "size", "()I"⟩ : Cond) ∈ lw_g := List.mem_filter.mpr ⟨List.mem_of_getElem? (i := 340) (by decide +kernel), by decide +kernel⟩
theorem wq341 : (.instanceMethod ⟨"AppletFirewall$Input", "size", "()I"⟩ : Cond) ∈ lw_g := List.mem_filter.mpr ⟨List.mem_of_getElem? (i := 341) (by decide +kernel), by decide +kernel⟩
theorem wq342 : (.selects "AppletFirewall$Input" ⟨"AppletFirewall$Input", "size", "()I"⟩ ⟨"AppletFirewall$Input", "size", "()I"⟩ : Cond) ∈ lw_g := List.mem_filter.mpr ⟨List.mem_of_getElem? (i := 342) (by decide +kernel), by decide +kernel⟩
theorem wq343 : (.code ⟨"AppletFirewall$Input", "size", "()I"⟩ prog_3_method_4_code 1 (some FieldType.int) : Cond) ∈ lw_g := List.mem_filter.mpr ⟨List.mem_of_getElem? (i := 343) (by decide +kernel), by decide +kernel⟩
theorem wq356 : (.methodLink "AppletFirewall" 72 ⟨"AppletFirewall$Memory", "failed", "()I"⟩ : Cond) ∈ lw_g := List.mem_filter.mpr ⟨List.mem_of_getElem? (i := 356) (by decide +kernel), by decide +kernel⟩
theorem wq357 : (.instanceMethod ⟨"AppletFirewall$Memory", "failed", "()I"⟩ : Cond) ∈ lw_g := List.mem_filter.mpr ⟨List.mem_of_getElem? (i := 357) (by decide +kernel), by decide +kernel⟩
theorem wq358 : (.selects "AppletFirewall$Memory" ⟨"AppletFirewall$Memory", "failed", "()I"⟩ ⟨"AppletFirewall$Memory", "failed", "()I"⟩ : Cond) ∈ lw_g := List.mem_filter.mpr ⟨List.mem_of_getElem? (i := 358) (by decide +kernel), by decide +kernel⟩
theorem wq359 : (.code ⟨"AppletFirewall$Memory", "failed", "()I"⟩ prog_5_method_5_code 1 (some FieldType.int) : Cond) ∈ lw_g := List.mem_filter.mpr ⟨List.mem_of_getElem? (i := 359) (by decide +kernel), by decide +kernel⟩
theorem wq360 : (.methodLink "AppletFirewall" 75 ⟨"AppletFirewall$Memory", "arm", "(I)V"⟩ : Cond) ∈ lw_g := List.mem_filter.mpr ⟨List.mem_of_getElem? (i := 360) (by decide +kernel), by decide +kernel⟩
theorem wq361 : (.instanceMethod ⟨"AppletFirewall$Memory", "arm", "(I)V"⟩ : Cond) ∈ lw_g := List.mem_filter.mpr ⟨List.mem_of_getElem? (i := 361) (by decide +kernel), by decide +kernel⟩
theorem wq362 : (.selects "AppletFirewall$Memory" ⟨"AppletFirewall$Memory", "arm", "(I)V"⟩ ⟨"AppletFirewall$Memory", "arm", "(I)V"⟩ : Cond) ∈ lw_g := List.mem_filter.mpr ⟨List.mem_of_getElem? (i := 362) (by decide +kernel), by decide +kernel⟩
theorem wq363 : (.code ⟨"AppletFirewall$Memory", "arm", "(I)V"⟩ prog_5_method_6_code 2 none : Cond) ∈ lw_g := List.mem_filter.mpr ⟨List.mem_of_getElem? (i := 363) (by decide +kernel), by decide +kernel⟩
theorem wq372 : (.methodLink "AppletFirewall" 86 ⟨"AppletFirewall$Memory", "written", "()I"⟩ : Cond) ∈ lw_g := List.mem_filter.mpr ⟨List.mem_of_getElem? (i := 372) (by decide +kernel), by decide +kernel⟩
theorem wq373 : (.instanceMethod ⟨"AppletFirewall$Memory", "written", "()I"⟩ : Cond) ∈ lw_g := List.mem_filter.mpr ⟨List.mem_of_getElem? (i := 373) (by decide +kernel), by decide +kernel⟩
theorem wq374 : (.selects "AppletFirewall$Memory" ⟨"AppletFirewall$Memory", "written", "()I"⟩ ⟨"AppletFirewall$Memory", "written", "()I"⟩ : Cond) ∈ lw_g := List.mem_filter.mpr ⟨List.mem_of_getElem? (i := 374) (by decide +kernel), by decide +kernel⟩
theorem wq375 : (.code ⟨"AppletFirewall$Memory", "written", "()I"⟩ prog_5_method_4_code 1 (some FieldType.int) : Cond) ∈ lw_g := List.mem_filter.mpr ⟨List.mem_of_getElem? (i := 375) (by decide +kernel), by decide +kernel⟩
theorem wq405 : (.methodLink "AppletFirewallModel" 1 ⟨"java/lang/Object", "<init>", "()V"⟩ : Cond) ∈ lw_g := List.mem_filter.mpr ⟨List.mem_of_getElem? (i := 405) (by decide +kernel), by decide +kernel⟩
theorem wq406 : (.fieldLink "AppletFirewallModel" 7 "AppletFirewallModel" "memory" "[I" : Cond) ∈ lw_g := List.mem_filter.mpr ⟨List.mem_of_getElem? (i := 406) (by decide +kernel), by decide +kernel⟩
theorem wq407 : (.fieldLink "AppletFirewallModel" 13 "AppletFirewallModel" "before" "[I" : Cond) ∈ lw_g := List.mem_filter.mpr ⟨List.mem_of_getElem? (i := 407) (by decide +kernel), by decide +kernel⟩
theorem wq408 : (.fieldLink "AppletFirewallModel" 16 "AppletFirewallModel" "left" "[I" : Cond) ∈ lw_g := List.mem_filter.mpr ⟨List.mem_of_getElem? (i := 408) (by decide +kernel), by decide +kernel⟩
theorem wq409 : (.fieldLink "AppletFirewallModel" 64 "AppletFirewallModel" "count" "I" : Cond) ∈ lw_g := List.mem_filter.mpr ⟨List.mem_of_getElem? (i := 409) (by decide +kernel), by decide +kernel⟩
theorem wq410 : (.fieldLink "AppletFirewallModel" 57 "AppletFirewallModel" "done" "I" : Cond) ∈ lw_g := List.mem_filter.mpr ⟨List.mem_of_getElem? (i := 410) (by decide +kernel), by decide +kernel⟩
theorem wq411 : (.fieldLink "AppletFirewallModel" 51 "AppletFirewallModel" "failed" "I" : Cond) ∈ lw_g := List.mem_filter.mpr ⟨List.mem_of_getElem? (i := 411) (by decide +kernel), by decide +kernel⟩
theorem wq412 : (.fieldLink "AppletFirewallModel" 45 "AppletFirewallModel" "armed" "Z" : Cond) ∈ lw_g := List.mem_filter.mpr ⟨List.mem_of_getElem? (i := 412) (by decide +kernel), by decide +kernel⟩
theorem wq413 : (.fieldLink "AppletFirewallModel" 48 "AppletFirewallModel" "fuse" "I" : Cond) ∈ lw_g := List.mem_filter.mpr ⟨List.mem_of_getElem? (i := 413) (by decide +kernel), by decide +kernel⟩
theorem wq414 : (.fieldLink "AppletFirewallModel" 19 "AppletFirewallModel" "on" "Z" : Cond) ∈ lw_g := List.mem_filter.mpr ⟨List.mem_of_getElem? (i := 414) (by decide +kernel), by decide +kernel⟩
theorem wq415 : (.fieldLink "AppletFirewallModel" 23 "AppletFirewallModel" "selected" "I" : Cond) ∈ lw_g := List.mem_filter.mpr ⟨List.mem_of_getElem? (i := 415) (by decide +kernel), by decide +kernel⟩
theorem wq416 : (.fieldLink "AppletFirewallModel" 33 "AppletFirewallModel" "verified" "Z" : Cond) ∈ lw_g := List.mem_filter.mpr ⟨List.mem_of_getElem? (i := 416) (by decide +kernel), by decide +kernel⟩
theorem wq417 : (.fieldLink "AppletFirewallModel" 36 "AppletFirewallModel" "open" "Z" : Cond) ∈ lw_g := List.mem_filter.mpr ⟨List.mem_of_getElem? (i := 417) (by decide +kernel), by decide +kernel⟩
theorem wq418 : (.fieldLink "AppletFirewallModel" 27 "AppletFirewallModel" "in" "[I" : Cond) ∈ lw_g := List.mem_filter.mpr ⟨List.mem_of_getElem? (i := 418) (by decide +kernel), by decide +kernel⟩
theorem wq419 : (.fieldLink "AppletFirewallModel" 39 "AppletFirewallModel" "size" "I" : Cond) ∈ lw_g := List.mem_filter.mpr ⟨List.mem_of_getElem? (i := 419) (by decide +kernel), by decide +kernel⟩
theorem wq420 : (.fieldLink "AppletFirewallModel" 30 "AppletFirewallModel" "out" "[I" : Cond) ∈ lw_g := List.mem_filter.mpr ⟨List.mem_of_getElem? (i := 420) (by decide +kernel), by decide +kernel⟩
theorem wq421 : (.fieldLink "AppletFirewallModel" 42 "AppletFirewallModel" "told" "I" : Cond) ∈ lw_g := List.mem_filter.mpr ⟨List.mem_of_getElem? (i := 421) (by decide +kernel), by decide +kernel⟩
theorem wq463 : (.methodLink "AppletFirewallModel" 54 ⟨"AppletFirewallModel", "forget", "()V"⟩ : Cond) ∈ lw_g := List.mem_filter.mpr ⟨List.mem_of_getElem? (i := 463) (by decide +kernel), by decide +kernel⟩
theorem wq465 : (.instanceMethod ⟨"AppletFirewallModel", "forget", "()V"⟩ : Cond) ∈ lw_g := List.mem_filter.mpr ⟨List.mem_of_getElem? (i := 465) (by decide +kernel), by decide +kernel⟩
theorem wq466 : (.code ⟨"AppletFirewallModel", "forget", "()V"⟩ prog_7_method_2_code 1 none : Cond) ∈ lw_g := List.mem_filter.mpr ⟨List.mem_of_getElem? (i := 466) (by decide +kernel), by decide +kernel⟩
theorem wq467 : (.methodLink "AppletFirewallModel" 71 ⟨"AppletFirewallModel", "undo", "()Z"⟩ : Cond) ∈ lw_g := List.mem_filter.mpr ⟨List.mem_of_getElem? (i := 467) (by decide +kernel), by decide +kernel⟩
theorem wq469 : (.instanceMethod ⟨"AppletFirewallModel", "undo", "()Z"⟩ : Cond) ∈ lw_g := List.mem_filter.mpr ⟨List.mem_of_getElem? (i := 469) (by decide +kernel), by decide +kernel⟩
theorem wq470 : (.code ⟨"AppletFirewallModel", "undo", "()Z"⟩ prog_7_method_7_code 2 (some FieldType.boolean) : Cond) ∈ lw_g := List.mem_filter.mpr ⟨List.mem_of_getElem? (i := 470) (by decide +kernel), by decide +kernel⟩
theorem wq471 : (.methodLink "AppletFirewallModel" 67 ⟨"AppletFirewallModel", "several", "(I)Z"⟩ : Cond) ∈ lw_g := List.mem_filter.mpr ⟨List.mem_of_getElem? (i := 471) (by decide +kernel), by decide +kernel⟩
theorem wq473 : (.instanceMethod ⟨"AppletFirewallModel", "several", "(I)Z"⟩ : Cond) ∈ lw_g := List.mem_filter.mpr ⟨List.mem_of_getElem? (i := 473) (by decide +kernel), by decide +kernel⟩
theorem wq474 : (.code ⟨"AppletFirewallModel", "several", "(I)Z"⟩ prog_7_method_4_code 3 (some FieldType.boolean) : Cond) ∈ lw_g := List.mem_filter.mpr ⟨List.mem_of_getElem? (i := 474) (by decide +kernel), by decide +kernel⟩
theorem wq475 : (.methodLink "AppletFirewallModel" 60 ⟨"AppletFirewallModel", "write", "()Z"⟩ : Cond) ∈ lw_g := List.mem_filter.mpr ⟨List.mem_of_getElem? (i := 475) (by decide +kernel), by decide +kernel⟩
theorem wq477 : (.instanceMethod ⟨"AppletFirewallModel", "write", "()Z"⟩ : Cond) ∈ lw_g := List.mem_filter.mpr ⟨List.mem_of_getElem? (i := 477) (by decide +kernel), by decide +kernel⟩
theorem wq478 : (.code ⟨"AppletFirewallModel", "write", "()Z"⟩ prog_7_method_3_code 1 (some FieldType.boolean) : Cond) ∈ lw_g := List.mem_filter.mpr ⟨List.mem_of_getElem? (i := 478) (by decide +kernel), by decide +kernel⟩
theorem wq483 : (.constantLong "AppletFirewallModel" 74 255 : Cond) ∈ lw_g := List.mem_filter.mpr ⟨List.mem_of_getElem? (i := 483) (by decide +kernel), by decide +kernel⟩
theorem wq488 : (.methodLink "AppletFirewallModel" 96 ⟨"AppletFirewallModel", "refuse", "()I"⟩ : Cond) ∈ lw_g := List.mem_filter.mpr ⟨List.mem_of_getElem? (i := 488) (by decide +kernel), by decide +kernel⟩
theorem wq490 : (.instanceMethod ⟨"AppletFirewallModel", "refuse", "()I"⟩ : Cond) ∈ lw_g := List.mem_filter.mpr ⟨List.mem_of_getElem? (i := 490) (by decide +kernel), by decide +kernel⟩
theorem wq491 : (.code ⟨"AppletFirewallModel", "refuse", "()I"⟩ prog_7_method_17_code 3 (some FieldType.int) : Cond) ∈ lw_g := List.mem_filter.mpr ⟨List.mem_of_getElem? (i := 491) (by decide +kernel), by decide +kernel⟩
theorem wq492 : (.methodLink "AppletFirewallModel" 79 ⟨"AppletFirewallModel", "shape", "()I"⟩ : Cond) ∈ lw_g := List.mem_filter.mpr ⟨List.mem_of_getElem? (i := 492) (by decide +kernel), by decide +kernel⟩
theorem wq494 : (.instanceMethod ⟨"AppletFirewallModel", "shape", "()I"⟩ : Cond) ∈ lw_g := List.mem_filter.mpr ⟨List.mem_of_getElem? (i := 494) (by decide +kernel), by decide +kernel⟩
theorem wq495 : (.code ⟨"AppletFirewallModel", "shape", "()I"⟩ prog_7_method_11_code 2 (some FieldType.int) : Cond) ∈ lw_g := List.mem_filter.mpr ⟨List.mem_of_getElem? (i := 495) (by decide +kernel), by decide +kernel⟩
theorem wq496 : (.methodLink "AppletFirewallModel" 83 ⟨"AppletFirewallModel", "known", "(I)Z"⟩ : Cond) ∈ lw_g := List.mem_filter.mpr ⟨List.mem_of_getElem? (i := 496) (by decide +kernel), by decide +kernel⟩
theorem wq497 : (.static ⟨"AppletFirewallModel", "known", "(I)Z"⟩ : Cond) ∈ lw_g := List.mem_filter.mpr ⟨List.mem_of_getElem? (i := 497) (by decide +kernel), by decide +kernel⟩
theorem wq498 : (.code ⟨"AppletFirewallModel", "known", "(I)Z"⟩ prog_7_method_13_code 1 (some FieldType.boolean) : Cond) ∈ lw_g := List.mem_filter.mpr ⟨List.mem_of_getElem? (i := 498) (by decide +kernel), by decide +kernel⟩
theorem wq499 : (.methodLink "AppletFirewallModel" 76 ⟨"AppletFirewallModel", "starred", "(I)Z"⟩ : Cond) ∈ lw_g := List.mem_filter.mpr ⟨List.mem_of_getElem? (i := 499) (by decide +kernel), by decide +kernel⟩
theorem wq500 : (.static ⟨"AppletFirewallModel", "starred", "(I)Z"⟩ : Cond) ∈ lw_g := List.mem_filter.mpr ⟨List.mem_of_getElem? (i := 500) (by decide +kernel), by decide +kernel⟩
theorem wq501 : (.code ⟨"AppletFirewallModel", "starred", "(I)Z"⟩ prog_7_method_12_code 1 (some FieldType.boolean) : Cond) ∈ lw_g := List.mem_filter.mpr ⟨List.mem_of_getElem? (i := 501) (by decide +kernel), by decide +kernel⟩
theorem wq502 : (.methodLink "AppletFirewallModel" 86 ⟨"AppletFirewallModel", "shapeOf", "(I)I"⟩ : Cond) ∈ lw_g := List.mem_filter.mpr ⟨List.mem_of_getElem? (i := 502) (by decide +kernel), by decide +kernel⟩
theorem wq503 : (.static ⟨"AppletFirewallModel", "shapeOf", "(I)I"⟩ : Cond) ∈ lw_g := List.mem_filter.mpr ⟨List.mem_of_getElem? (i := 503) (by decide +kernel), by decide +kernel⟩
theorem wq504 : (.code ⟨"AppletFirewallModel", "shapeOf", "(I)I"⟩ prog_7_method_14_code 1 (some FieldType.int) : Cond) ∈ lw_g := List.mem_filter.mpr ⟨List.mem_of_getElem? (i := 504) (by decide +kernel), by decide +kernel⟩
theorem wq505 : (.methodLink "AppletFirewallModel" 90 ⟨"AppletFirewallModel", "lengthWrong", "(I)Z"⟩ : Cond) ∈ lw_g := List.mem_filter.mpr ⟨List.mem_of_getElem? (i := 505) (by decide +kernel), by decide +kernel⟩
theorem wq507 : (.instanceMethod ⟨"AppletFirewallModel", "lengthWrong", "(I)Z"⟩ : Cond) ∈ lw_g := List.mem_filter.mpr ⟨List.mem_of_getElem? (i := 507) (by decide +kernel), by decide +kernel⟩
theorem wq508 : (.code ⟨"AppletFirewallModel", "lengthWrong", "(I)Z"⟩ prog_7_method_15_code 3 (some FieldType.boolean) : Cond) ∈ lw_g := List.mem_filter.mpr ⟨List.mem_of_getElem? (i := 508) (by decide +kernel), by decide +kernel⟩
theorem wq509 : (.methodLink "AppletFirewallModel" 93 ⟨"AppletFirewallModel", "placesWrong", "(I)Z"⟩ : Cond) ∈ lw_g := List.mem_filter.mpr ⟨List.mem_of_getElem? (i := 509) (by decide +kernel), by decide +kernel⟩
theorem wq511 : (.instanceMethod ⟨"AppletFirewallModel", "placesWrong", "(I)Z"⟩ : Cond) ∈ lw_g := List.mem_filter.mpr ⟨List.mem_of_getElem? (i := 511) (by decide +kernel), by decide +kernel⟩
theorem wq512 : (.code ⟨"AppletFirewallModel", "placesWrong", "(I)Z"⟩ prog_7_method_16_code 4 (some FieldType.boolean) : Cond) ∈ lw_g := List.mem_filter.mpr ⟨List.mem_of_getElem? (i := 512) (by decide +kernel), by decide +kernel⟩
theorem wq513 : (.methodLink "AppletFirewallModel" 99 ⟨"AppletFirewallModel", "carry", "(III)I"⟩ : Cond) ∈ lw_g := List.mem_filter.mpr ⟨List.mem_of_getElem? (i := 513) (by decide +kernel), by decide +kernel⟩
theorem wq515 : (.instanceMethod ⟨"AppletFirewallModel", "carry", "(III)I"⟩ : Cond) ∈ lw_g := List.mem_filter.mpr ⟨List.mem_of_getElem? (i := 515) (by decide +kernel), by decide +kernel⟩
theorem wq516 : (.code ⟨"AppletFirewallModel", "carry", "(III)I"⟩ prog_7_method_19_code 4 (some FieldType.int) : Cond) ∈ lw_g := List.mem_filter.mpr ⟨List.mem_of_getElem? (i := 516) (by decide +kernel), by decide +kernel⟩
theorem wq517 : (.methodLink "AppletFirewallModel" 104 ⟨"AppletFirewallModel", "select", "(I)I"⟩ : Cond) ∈ lw_g := List.mem_filter.mpr ⟨List.mem_of_getElem? (i := 517) (by decide +kernel), by decide +kernel⟩
theorem wq519 : (.instanceMethod ⟨"AppletFirewallModel", "select", "(I)I"⟩ : Cond) ∈ lw_g := List.mem_filter.mpr ⟨List.mem_of_getElem? (i := 519) (by decide +kernel), by decide +kernel⟩
theorem wq520 : (.code ⟨"AppletFirewallModel", "select", "(I)I"⟩ prog_7_method_21_code 2 (some FieldType.int) : Cond) ∈ lw_g := List.mem_filter.mpr ⟨List.mem_of_getElem? (i := 520) (by decide +kernel), by decide +kernel⟩
theorem wq521 : (.constant "AppletFirewallModel" 103 36864 : Cond) ∈ lw_g := List.mem_filter.mpr ⟨List.mem_of_getElem? (i := 521) (by decide +kernel), by decide +kernel⟩
theorem wq522 : (.methodLink "AppletFirewallModel" 107 ⟨"AppletFirewallModel", "verify", "()I"⟩ : Cond) ∈ lw_g := List.mem_filter.mpr ⟨List.mem_of_getElem? (i := 522) (by decide +kernel), by decide +kernel⟩
theorem wq524 : (.instanceMethod ⟨"AppletFirewallModel", "verify", "()I"⟩ : Cond) ∈ lw_g := List.mem_filter.mpr ⟨List.mem_of_getElem? (i := 524) (by decide +kernel), by decide +kernel⟩
theorem wq525 : (.code ⟨"AppletFirewallModel", "verify", "()I"⟩ prog_7_method_22_code 2 (some FieldType.int) : Cond) ∈ lw_g := List.mem_filter.mpr ⟨List.mem_of_getElem? (i := 525) (by decide +kernel), by decide +kernel⟩
theorem wq526 : (.methodLink "AppletFirewallModel" 110 ⟨"AppletFirewallModel", "store", "(II)I"⟩ : Cond) ∈ lw_g := List.mem_filter.mpr ⟨List.mem_of_getElem? (i := 526) (by decide +kernel), by decide +kernel⟩
theorem wq528 : (.instanceMethod ⟨"AppletFirewallModel", "store", "(II)I"⟩ : Cond) ∈ lw_g := List.mem_filter.mpr ⟨List.mem_of_getElem? (i := 528) (by decide +kernel), by decide +kernel⟩
theorem wq529 : (.code ⟨"AppletFirewallModel", "store", "(II)I"⟩ prog_7_method_20_code 4 (some FieldType.int) : Cond) ∈ lw_g := List.mem_filter.mpr ⟨List.mem_of_getElem? (i := 529) (by decide +kernel), by decide +kernel⟩
theorem wq530 : (.methodLink "AppletFirewallModel" 132 ⟨"AppletFirewallModel", "change", "(II)Z"⟩ : Cond) ∈ lw_g := List.mem_filter.mpr ⟨List.mem_of_getElem? (i := 530) (by decide +kernel), by decide +kernel⟩
theorem wq532 : (.instanceMethod ⟨"AppletFirewallModel", "change", "(II)Z"⟩ : Cond) ∈ lw_g := List.mem_filter.mpr ⟨List.mem_of_getElem? (i := 532) (by decide +kernel), by decide +kernel⟩
theorem wq533 : (.code ⟨"AppletFirewallModel", "change", "(II)Z"⟩ prog_7_method_5_code 4 (some FieldType.boolean) : Cond) ∈ lw_g := List.mem_filter.mpr ⟨List.mem_of_getElem? (i := 533) (by decide +kernel), by decide +kernel⟩
theorem wq534 : (.methodLink "AppletFirewallModel" 136 ⟨"AppletFirewallModel", "settle", "()Z"⟩ : Cond) ∈ lw_g := List.mem_filter.mpr ⟨List.mem_of_getElem? (i := 534) (by decide +kernel), by decide +kernel⟩
theorem wq536 : (.instanceMethod ⟨"AppletFirewallModel", "settle", "()Z"⟩ : Cond) ∈ lw_g := List.mem_filter.mpr ⟨List.mem_of_getElem? (i := 536) (by decide +kernel), by decide +kernel⟩
theorem wq537 : (.code ⟨"AppletFirewallModel", "settle", "()Z"⟩ prog_7_method_6_code 1 (some FieldType.boolean) : Cond) ∈ lw_g := List.mem_filter.mpr ⟨List.mem_of_getElem? (i := 537) (by decide +kernel), by decide +kernel⟩
theorem wq538 : (.methodLink "AppletFirewallModel" 114 ⟨"AppletFirewallModel", "unblock", "(I)I"⟩ : Cond) ∈ lw_g := List.mem_filter.mpr ⟨List.mem_of_getElem? (i := 538) (by decide +kernel), by decide +kernel⟩
theorem wq540 : (.instanceMethod ⟨"AppletFirewallModel", "unblock", "(I)I"⟩ : Cond) ∈ lw_g := List.mem_filter.mpr ⟨List.mem_of_getElem? (i := 540) (by decide +kernel), by decide +kernel⟩
theorem wq541 : (.code ⟨"AppletFirewallModel", "unblock", "(I)I"⟩ prog_7_method_23_code 2 (some FieldType.int) : Cond) ∈ lw_g := List.mem_filter.mpr ⟨List.mem_of_getElem? (i := 541) (by decide +kernel), by decide +kernel⟩
theorem wq542 : (.methodLink "AppletFirewallModel" 117 ⟨"AppletFirewallModel", "read", "(III)I"⟩ : Cond) ∈ lw_g := List.mem_filter.mpr ⟨List.mem_of_getElem? (i := 542) (by decide +kernel), by decide +kernel⟩
theorem wq544 : (.instanceMethod ⟨"AppletFirewallModel", "read", "(III)I"⟩ : Cond) ∈ lw_g := List.mem_filter.mpr ⟨List.mem_of_getElem? (i := 544) (by decide +kernel), by decide +kernel⟩
theorem wq545 : (.code ⟨"AppletFirewallModel", "read", "(III)I"⟩ prog_7_method_26_code 6 (some FieldType.int) : Cond) ∈ lw_g := List.mem_filter.mpr ⟨List.mem_of_getElem? (i := 545) (by decide +kernel), by decide +kernel⟩
theorem wq546 : (.methodLink "AppletFirewallModel" 120 ⟨"AppletFirewallModel", "begin", "()I"⟩ : Cond) ∈ lw_g := List.mem_filter.mpr ⟨List.mem_of_getElem? (i := 546) (by decide +kernel), by decide +kernel⟩
theorem wq548 : (.instanceMethod ⟨"AppletFirewallModel", "begin", "()I"⟩ : Cond) ∈ lw_g := List.mem_filter.mpr ⟨List.mem_of_getElem? (i := 548) (by decide +kernel), by decide +kernel⟩
theorem wq549 : (.code ⟨"AppletFirewallModel", "begin", "()I"⟩ prog_7_method_24_code 1 (some FieldType.int) : Cond) ∈ lw_g := List.mem_filter.mpr ⟨List.mem_of_getElem? (i := 549) (by decide +kernel), by decide +kernel⟩
theorem wq550 : (.methodLink "AppletFirewallModel" 123 ⟨"AppletFirewallModel", "end", "(I)I"⟩ : Cond) ∈ lw_g := List.mem_filter.mpr ⟨List.mem_of_getElem? (i := 550) (by decide +kernel), by decide +kernel⟩
theorem wq552 : (.instanceMethod ⟨"AppletFirewallModel", "end", "(I)I"⟩ : Cond) ∈ lw_g := List.mem_filter.mpr ⟨List.mem_of_getElem? (i := 552) (by decide +kernel), by decide +kernel⟩
theorem wq553 : (.code ⟨"AppletFirewallModel", "end", "(I)I"⟩ prog_7_method_25_code 3 (some FieldType.int) : Cond) ∈ lw_g := List.mem_filter.mpr ⟨List.mem_of_getElem? (i := 553) (by decide +kernel), by decide +kernel⟩
theorem wq554 : (.methodLink "AppletFirewallModel" 126 ⟨"AppletFirewallModel", "grant", "(I)I"⟩ : Cond) ∈ lw_g := List.mem_filter.mpr ⟨List.mem_of_getElem? (i := 554) (by decide +kernel), by decide +kernel⟩
theorem wq556 : (.instanceMethod ⟨"AppletFirewallModel", "grant", "(I)I"⟩ : Cond) ∈ lw_g := List.mem_filter.mpr ⟨List.mem_of_getElem? (i := 556) (by decide +kernel), by decide +kernel⟩
theorem wq557 : (.code ⟨"AppletFirewallModel", "grant", "(I)I"⟩ prog_7_method_27_code 6 (some FieldType.int) : Cond) ∈ lw_g := List.mem_filter.mpr ⟨List.mem_of_getElem? (i := 557) (by decide +kernel), by decide +kernel⟩
theorem wq558 : (.methodLink "AppletFirewallModel" 129 ⟨"AppletFirewallModel", "shared", "(III)I"⟩ : Cond) ∈ lw_g := List.mem_filter.mpr ⟨List.mem_of_getElem? (i := 558) (by decide +kernel), by decide +kernel⟩
theorem wq560 : (.instanceMethod ⟨"AppletFirewallModel", "shared", "(III)I"⟩ : Cond) ∈ lw_g := List.mem_filter.mpr ⟨List.mem_of_getElem? (i := 560) (by decide +kernel), by decide +kernel⟩
theorem wq561 : (.code ⟨"AppletFirewallModel", "shared", "(III)I"⟩ prog_7_method_28_code 8 (some FieldType.int) : Cond) ∈ lw_g := List.mem_filter.mpr ⟨List.mem_of_getElem? (i := 561) (by decide +kernel), by decide +kernel⟩
theorem wq594 : (.constant "AppletFirewallModel" 139 65536 : Cond) ∈ lw_g := List.mem_filter.mpr ⟨List.mem_of_getElem? (i := 594) (by decide +kernel), by decide +kernel⟩
theorem wq595 : (.constant "AppletFirewallModel" 140 16777216 : Cond) ∈ lw_g := List.mem_filter.mpr ⟨List.mem_of_getElem? (i := 595) (by decide +kernel), by decide +kernel⟩
theorem wq605 : (.fieldLink "AppletFirewall$Instruction" 62 "AppletFirewall$Instruction" "code" "I" : Cond) ∈ lw_g := List.mem_filter.mpr ⟨List.mem_of_getElem? (i := 605) (by decide +kernel), by decide +kernel⟩
theorem wq606 : (.fieldLink "AppletFirewall$Instruction" 66 "AppletFirewall$Instruction" "shape" "I" : Cond) ∈ lw_g := List.mem_filter.mpr ⟨List.mem_of_getElem? (i := 606) (by decide +kernel), by decide +kernel⟩
theorem wq607 : (.fieldLink "AppletFirewall$Instruction" 69 "AppletFirewall$Instruction" "lc" "I" : Cond) ∈ lw_g := List.mem_filter.mpr ⟨List.mem_of_getElem? (i := 607) (by decide +kernel), by decide +kernel⟩
theorem wq608 : (.fieldLink "AppletFirewall$Instruction" 72 "AppletFirewall$Instruction" "highestP1" "I" : Cond) ∈ lw_g := List.mem_filter.mpr ⟨List.mem_of_getElem? (i := 608) (by decide +kernel), by decide +kernel⟩
theorem wq609 : (.fieldLink "AppletFirewall$Instruction" 75 "AppletFirewall$Instruction" "highestP2" "I" : Cond) ∈ lw_g := List.mem_filter.mpr ⟨List.mem_of_getElem? (i := 609) (by decide +kernel), by decide +kernel⟩
theorem wq610 : (.fieldLink "AppletFirewall$Instruction" 78 "AppletFirewall$Instruction" "guarded" "Z" : Cond) ∈ lw_g := List.mem_filter.mpr ⟨List.mem_of_getElem? (i := 610) (by decide +kernel), by decide +kernel⟩
theorem wq611 : (.fieldLink "java/lang/Enum" 7 "java/lang/Enum" "ordinal" "I" : Cond) ∈ lw_g := List.mem_filter.mpr ⟨List.mem_of_getElem? (i := 611) (by decide +kernel), by decide +kernel⟩
end
section
-- the states, as tuples
abbrev StM : Type := (Nat → Int32) × Int32 × Int32 × Int32
abbrev StI : Type := (Nat → Int32) × Int32
abbrev StX : Type := (Nat → Int32) × Int32 × Int32 × Int32 × (Nat → Int32) × Int32 × (Nat → Int32) × (Nat → Int32) × Int32 × Int32 × Int32 × Int32 × Int32
abbrev StR : Type := (Nat → Int32) × (Nat → Int32) × (Nat → Int32) × Int32 × Int32 × Int32 × Int32 × Int32 × Int32 × Int32 × Int32 × Int32 × (Nat → Int32) × Int32 × (Nat → Int32) × Int32
-- an index into an array of n places: nothing if it lies outside
def ix {β : Type} (i : Int32) (n : Nat) (k : Nat → Option β) : Option β := if i < 0 ∨ n ≤ i.toNatClampNeg then none else k i.toNatClampNeg
theorem ix_some {β : Type} {i : Int32} {n : Nat} {k : Nat → Option β} {r : β} (h : ix i n k = some r) : vp_in i n ∧ k i.toNatClampNeg = some r := by
  unfold ix at h
  by_cases hc : i < 0 ∨ n ≤ i.toNatClampNeg
  · rw [if_pos hc] at h; cases h
  · rw [if_neg hc] at h; exact ⟨hc, h⟩
theorem ix_nI {β : Type} {j n : Nat} (h : j < n) (hn : n < 2 ^ 31) (k : Nat → Option β) : ix (nI j) n k = k j := by
  unfold ix
  rw [if_neg (vp_in_nI h hn), nI_clamp (Nat.lt_trans h hn)]
theorem lw_all : ∀ w ∈ lw_g, goodWord w = true := fun _ h => (List.mem_filter.mp h).2
theorem goodIn_t {c0 : Cond} {ws : List Cond} (h : ∀ w ∈ ws, w ∈ lw_g) : GoodIn (c0 :: lw_g) ws := fun w hw => ⟨List.mem_cons_of_mem _ (h w hw), good_of_word (lw_all w (h w hw))⟩
theorem gC {c0 c1 : Cond} (h5 : c1 ∈ lw_g) : GoodIn (c0 :: lw_g) (c1 :: lw_g) := goodIn_t (fun w hw => by
  rcases List.mem_cons.mp hw with h | h
  · rw [h]; exact h5
  · exact h)
theorem gV {c0 c1 : Cond} {own C : String} {idx : Nat} {y : MethodName} (h1 : Cond.methodLink own idx y ∈ lw_g) (h2 : Cond.instanceMethod y ∈ lw_g) (h3 : Cond.selects C y y ∈ lw_g) (h4 : Cond.initialized C ∈ lw_g) (h5 : c1 ∈ lw_g) : GoodIn (c0 :: lw_g) (wsV own idx C y (c1 :: lw_g)) := goodIn_t (fun w hw => by
  unfold wsV at hw
  simp only [List.cons_append, List.nil_append, List.mem_cons] at hw
  rcases hw with h | h | h | h | h | h
  · rw [h]; exact h1
  · rw [h]; exact h2
  · rw [h]; exact h3
  · rw [h]; exact h4
  · rw [h]; exact h5
  · exact h)
theorem gS {c0 c1 : Cond} {own : String} {idx : Nat} {y : MethodName} (h1 : Cond.methodLink own idx y ∈ lw_g) (h2 : Cond.static y ∈ lw_g) (h4 : Cond.initialized y.cls ∈ lw_g) (h5 : c1 ∈ lw_g) : GoodIn (c0 :: lw_g) (va_wsS own idx y (c1 :: lw_g)) := goodIn_t (fun w hw => by
  unfold va_wsS at hw
  simp only [List.cons_append, List.nil_append, List.mem_cons] at hw
  rcases hw with h | h | h | h | h
  · rw [h]; exact h1
  · rw [h]; exact h2
  · rw [h]; exact h4
  · rw [h]; exact h5
  · exact h)
theorem ift {c : Prop} [Decidable c] {β : Type} {A B : Option β} {r : Option β} (h : (if c then A else B) = r) (hc : c) : A = r := by rwa [if_pos hc] at h
theorem lk_nil {d k : Int} : Op.lookupswitch.offset [] d k = d := rfl
theorem lk_cons {a o d k : Int} {r : List (Int × Int)} (h : ¬ a = k) (t : Op.lookupswitch.offset r d k = d) : Op.lookupswitch.offset ((a, o) :: r) d k = d := by
  rw [Op.lookupswitch.offset_cons, if_neg h]; exact t
theorem xne {x : Int32} {k : Int} (K : Int32) (hK : K.toInt = k) (h : ¬ x = K) : ¬ k = x.toInt := fun e => h (Int32.toInt_inj.mp (by rw [hK, e]))
theorem ifn {c : Prop} [Decidable c] {β : Type} {A B : Option β} {r : Option β} (h : (if c then A else B) = r) (hc : ¬ c) : B = r := by rwa [if_neg hc] at h

def bd1 {a1 β : Type} (o : Option (a1)) (k : a1 → Option β) : Option β := o.bind fun x => k x
theorem bd1_some {a1 β : Type} {o : Option (a1)} {k : a1 → Option β} {r : β} (h : bd1 o k = some r) : ∃ x1, o = some x1 ∧ k x1 = some r := by
  cases o with
  | none => cases h
  | some x => exact ⟨x, rfl, h⟩
theorem bd1_eq {a1 β : Type} {x1 : a1} (k : a1 → Option β) : bd1 (some x1) k = k x1 := rfl
theorem lf1 {t1 : Type} {a1 : t1} {r1 : t1} (hf : some a1 = some r1) : a1 = r1 := by
  cases hf
  exact rfl
def bd2 {a1 a2 β : Type} (o : Option (a1 × a2)) (k : a1 → a2 → Option β) : Option β := o.bind fun x => k x.1 x.2
theorem bd2_some {a1 a2 β : Type} {o : Option (a1 × a2)} {k : a1 → a2 → Option β} {r : β} (h : bd2 o k = some r) : ∃ x1 x2, o = some (x1, x2) ∧ k x1 x2 = some r := by
  cases o with
  | none => cases h
  | some x => exact ⟨x.1, x.2, rfl, h⟩
theorem bd2_eq {a1 a2 β : Type} {x1 : a1} {x2 : a2} (k : a1 → a2 → Option β) : bd2 (some (x1, x2)) k = k x1 x2 := rfl
theorem lf2 {t1 t2 : Type} {a1 : t1} {a2 : t2} {r1 : t1} {r2 : t2} (hf : some (a1, a2) = some (r1, r2)) : a1 = r1 ∧ a2 = r2 := by
  cases hf
  exact ⟨rfl, rfl⟩
def bd3 {a1 a2 a3 β : Type} (o : Option (a1 × a2 × a3)) (k : a1 → a2 → a3 → Option β) : Option β := o.bind fun x => k x.1 x.2.1 x.2.2
theorem bd3_some {a1 a2 a3 β : Type} {o : Option (a1 × a2 × a3)} {k : a1 → a2 → a3 → Option β} {r : β} (h : bd3 o k = some r) : ∃ x1 x2 x3, o = some (x1, x2, x3) ∧ k x1 x2 x3 = some r := by
  cases o with
  | none => cases h
  | some x => exact ⟨x.1, x.2.1, x.2.2, rfl, h⟩
theorem bd3_eq {a1 a2 a3 β : Type} {x1 : a1} {x2 : a2} {x3 : a3} (k : a1 → a2 → a3 → Option β) : bd3 (some (x1, x2, x3)) k = k x1 x2 x3 := rfl
theorem lf3 {t1 t2 t3 : Type} {a1 : t1} {a2 : t2} {a3 : t3} {r1 : t1} {r2 : t2} {r3 : t3} (hf : some (a1, a2, a3) = some (r1, r2, r3)) : a1 = r1 ∧ a2 = r2 ∧ a3 = r3 := by
  cases hf
  exact ⟨rfl, rfl, rfl⟩
def bd4 {a1 a2 a3 a4 β : Type} (o : Option (a1 × a2 × a3 × a4)) (k : a1 → a2 → a3 → a4 → Option β) : Option β := o.bind fun x => k x.1 x.2.1 x.2.2.1 x.2.2.2
theorem bd4_some {a1 a2 a3 a4 β : Type} {o : Option (a1 × a2 × a3 × a4)} {k : a1 → a2 → a3 → a4 → Option β} {r : β} (h : bd4 o k = some r) : ∃ x1 x2 x3 x4, o = some (x1, x2, x3, x4) ∧ k x1 x2 x3 x4 = some r := by
  cases o with
  | none => cases h
  | some x => exact ⟨x.1, x.2.1, x.2.2.1, x.2.2.2, rfl, h⟩
theorem bd4_eq {a1 a2 a3 a4 β : Type} {x1 : a1} {x2 : a2} {x3 : a3} {x4 : a4} (k : a1 → a2 → a3 → a4 → Option β) : bd4 (some (x1, x2, x3, x4)) k = k x1 x2 x3 x4 := rfl
theorem lf4 {t1 t2 t3 t4 : Type} {a1 : t1} {a2 : t2} {a3 : t3} {a4 : t4} {r1 : t1} {r2 : t2} {r3 : t3} {r4 : t4} (hf : some (a1, a2, a3, a4) = some (r1, r2, r3, r4)) : a1 = r1 ∧ a2 = r2 ∧ a3 = r3 ∧ a4 = r4 := by
  cases hf
  exact ⟨rfl, rfl, rfl, rfl⟩
def bd5 {a1 a2 a3 a4 a5 β : Type} (o : Option (a1 × a2 × a3 × a4 × a5)) (k : a1 → a2 → a3 → a4 → a5 → Option β) : Option β := o.bind fun x => k x.1 x.2.1 x.2.2.1 x.2.2.2.1 x.2.2.2.2
theorem bd5_some {a1 a2 a3 a4 a5 β : Type} {o : Option (a1 × a2 × a3 × a4 × a5)} {k : a1 → a2 → a3 → a4 → a5 → Option β} {r : β} (h : bd5 o k = some r) : ∃ x1 x2 x3 x4 x5, o = some (x1, x2, x3, x4, x5) ∧ k x1 x2 x3 x4 x5 = some r := by
  cases o with
  | none => cases h
  | some x => exact ⟨x.1, x.2.1, x.2.2.1, x.2.2.2.1, x.2.2.2.2, rfl, h⟩
theorem bd5_eq {a1 a2 a3 a4 a5 β : Type} {x1 : a1} {x2 : a2} {x3 : a3} {x4 : a4} {x5 : a5} (k : a1 → a2 → a3 → a4 → a5 → Option β) : bd5 (some (x1, x2, x3, x4, x5)) k = k x1 x2 x3 x4 x5 := rfl
theorem lf5 {t1 t2 t3 t4 t5 : Type} {a1 : t1} {a2 : t2} {a3 : t3} {a4 : t4} {a5 : t5} {r1 : t1} {r2 : t2} {r3 : t3} {r4 : t4} {r5 : t5} (hf : some (a1, a2, a3, a4, a5) = some (r1, r2, r3, r4, r5)) : a1 = r1 ∧ a2 = r2 ∧ a3 = r3 ∧ a4 = r4 ∧ a5 = r5 := by
  cases hf
  exact ⟨rfl, rfl, rfl, rfl, rfl⟩
def bd13 {a1 a2 a3 a4 a5 a6 a7 a8 a9 a10 a11 a12 a13 β : Type} (o : Option (a1 × a2 × a3 × a4 × a5 × a6 × a7 × a8 × a9 × a10 × a11 × a12 × a13)) (k : a1 → a2 → a3 → a4 → a5 → a6 → a7 → a8 → a9 → a10 → a11 → a12 → a13 → Option β) : Option β := o.bind fun x => k x.1 x.2.1 x.2.2.1 x.2.2.2.1 x.2.2.2.2.1 x.2.2.2.2.2.1 x.2.2.2.2.2.2.1 x.2.2.2.2.2.2.2.1 x.2.2.2.2.2.2.2.2.1 x.2.2.2.2.2.2.2.2.2.1 x.2.2.2.2.2.2.2.2.2.2.1 x.2.2.2.2.2.2.2.2.2.2.2.1 x.2.2.2.2.2.2.2.2.2.2.2.2
theorem bd13_some {a1 a2 a3 a4 a5 a6 a7 a8 a9 a10 a11 a12 a13 β : Type} {o : Option (a1 × a2 × a3 × a4 × a5 × a6 × a7 × a8 × a9 × a10 × a11 × a12 × a13)} {k : a1 → a2 → a3 → a4 → a5 → a6 → a7 → a8 → a9 → a10 → a11 → a12 → a13 → Option β} {r : β} (h : bd13 o k = some r) : ∃ x1 x2 x3 x4 x5 x6 x7 x8 x9 x10 x11 x12 x13, o = some (x1, x2, x3, x4, x5, x6, x7, x8, x9, x10, x11, x12, x13) ∧ k x1 x2 x3 x4 x5 x6 x7 x8 x9 x10 x11 x12 x13 = some r := by
  cases o with
  | none => cases h
  | some x => exact ⟨x.1, x.2.1, x.2.2.1, x.2.2.2.1, x.2.2.2.2.1, x.2.2.2.2.2.1, x.2.2.2.2.2.2.1, x.2.2.2.2.2.2.2.1, x.2.2.2.2.2.2.2.2.1, x.2.2.2.2.2.2.2.2.2.1, x.2.2.2.2.2.2.2.2.2.2.1, x.2.2.2.2.2.2.2.2.2.2.2.1, x.2.2.2.2.2.2.2.2.2.2.2.2, rfl, h⟩
theorem bd13_eq {a1 a2 a3 a4 a5 a6 a7 a8 a9 a10 a11 a12 a13 β : Type} {x1 : a1} {x2 : a2} {x3 : a3} {x4 : a4} {x5 : a5} {x6 : a6} {x7 : a7} {x8 : a8} {x9 : a9} {x10 : a10} {x11 : a11} {x12 : a12} {x13 : a13} (k : a1 → a2 → a3 → a4 → a5 → a6 → a7 → a8 → a9 → a10 → a11 → a12 → a13 → Option β) : bd13 (some (x1, x2, x3, x4, x5, x6, x7, x8, x9, x10, x11, x12, x13)) k = k x1 x2 x3 x4 x5 x6 x7 x8 x9 x10 x11 x12 x13 := rfl
theorem lf13 {t1 t2 t3 t4 t5 t6 t7 t8 t9 t10 t11 t12 t13 : Type} {a1 : t1} {a2 : t2} {a3 : t3} {a4 : t4} {a5 : t5} {a6 : t6} {a7 : t7} {a8 : t8} {a9 : t9} {a10 : t10} {a11 : t11} {a12 : t12} {a13 : t13} {r1 : t1} {r2 : t2} {r3 : t3} {r4 : t4} {r5 : t5} {r6 : t6} {r7 : t7} {r8 : t8} {r9 : t9} {r10 : t10} {r11 : t11} {r12 : t12} {r13 : t13} (hf : some (a1, a2, a3, a4, a5, a6, a7, a8, a9, a10, a11, a12, a13) = some (r1, r2, r3, r4, r5, r6, r7, r8, r9, r10, r11, r12, r13)) : a1 = r1 ∧ a2 = r2 ∧ a3 = r3 ∧ a4 = r4 ∧ a5 = r5 ∧ a6 = r6 ∧ a7 = r7 ∧ a8 = r8 ∧ a9 = r9 ∧ a10 = r10 ∧ a11 = r11 ∧ a12 = r12 ∧ a13 = r13 := by
  cases hf
  exact ⟨rfl, rfl, rfl, rfl, rfl, rfl, rfl, rfl, rfl, rfl, rfl, rfl, rfl⟩
def bd14 {a1 a2 a3 a4 a5 a6 a7 a8 a9 a10 a11 a12 a13 a14 β : Type} (o : Option (a1 × a2 × a3 × a4 × a5 × a6 × a7 × a8 × a9 × a10 × a11 × a12 × a13 × a14)) (k : a1 → a2 → a3 → a4 → a5 → a6 → a7 → a8 → a9 → a10 → a11 → a12 → a13 → a14 → Option β) : Option β := o.bind fun x => k x.1 x.2.1 x.2.2.1 x.2.2.2.1 x.2.2.2.2.1 x.2.2.2.2.2.1 x.2.2.2.2.2.2.1 x.2.2.2.2.2.2.2.1 x.2.2.2.2.2.2.2.2.1 x.2.2.2.2.2.2.2.2.2.1 x.2.2.2.2.2.2.2.2.2.2.1 x.2.2.2.2.2.2.2.2.2.2.2.1 x.2.2.2.2.2.2.2.2.2.2.2.2.1 x.2.2.2.2.2.2.2.2.2.2.2.2.2
theorem bd14_some {a1 a2 a3 a4 a5 a6 a7 a8 a9 a10 a11 a12 a13 a14 β : Type} {o : Option (a1 × a2 × a3 × a4 × a5 × a6 × a7 × a8 × a9 × a10 × a11 × a12 × a13 × a14)} {k : a1 → a2 → a3 → a4 → a5 → a6 → a7 → a8 → a9 → a10 → a11 → a12 → a13 → a14 → Option β} {r : β} (h : bd14 o k = some r) : ∃ x1 x2 x3 x4 x5 x6 x7 x8 x9 x10 x11 x12 x13 x14, o = some (x1, x2, x3, x4, x5, x6, x7, x8, x9, x10, x11, x12, x13, x14) ∧ k x1 x2 x3 x4 x5 x6 x7 x8 x9 x10 x11 x12 x13 x14 = some r := by
  cases o with
  | none => cases h
  | some x => exact ⟨x.1, x.2.1, x.2.2.1, x.2.2.2.1, x.2.2.2.2.1, x.2.2.2.2.2.1, x.2.2.2.2.2.2.1, x.2.2.2.2.2.2.2.1, x.2.2.2.2.2.2.2.2.1, x.2.2.2.2.2.2.2.2.2.1, x.2.2.2.2.2.2.2.2.2.2.1, x.2.2.2.2.2.2.2.2.2.2.2.1, x.2.2.2.2.2.2.2.2.2.2.2.2.1, x.2.2.2.2.2.2.2.2.2.2.2.2.2, rfl, h⟩
theorem bd14_eq {a1 a2 a3 a4 a5 a6 a7 a8 a9 a10 a11 a12 a13 a14 β : Type} {x1 : a1} {x2 : a2} {x3 : a3} {x4 : a4} {x5 : a5} {x6 : a6} {x7 : a7} {x8 : a8} {x9 : a9} {x10 : a10} {x11 : a11} {x12 : a12} {x13 : a13} {x14 : a14} (k : a1 → a2 → a3 → a4 → a5 → a6 → a7 → a8 → a9 → a10 → a11 → a12 → a13 → a14 → Option β) : bd14 (some (x1, x2, x3, x4, x5, x6, x7, x8, x9, x10, x11, x12, x13, x14)) k = k x1 x2 x3 x4 x5 x6 x7 x8 x9 x10 x11 x12 x13 x14 := rfl
theorem lf14 {t1 t2 t3 t4 t5 t6 t7 t8 t9 t10 t11 t12 t13 t14 : Type} {a1 : t1} {a2 : t2} {a3 : t3} {a4 : t4} {a5 : t5} {a6 : t6} {a7 : t7} {a8 : t8} {a9 : t9} {a10 : t10} {a11 : t11} {a12 : t12} {a13 : t13} {a14 : t14} {r1 : t1} {r2 : t2} {r3 : t3} {r4 : t4} {r5 : t5} {r6 : t6} {r7 : t7} {r8 : t8} {r9 : t9} {r10 : t10} {r11 : t11} {r12 : t12} {r13 : t13} {r14 : t14} (hf : some (a1, a2, a3, a4, a5, a6, a7, a8, a9, a10, a11, a12, a13, a14) = some (r1, r2, r3, r4, r5, r6, r7, r8, r9, r10, r11, r12, r13, r14)) : a1 = r1 ∧ a2 = r2 ∧ a3 = r3 ∧ a4 = r4 ∧ a5 = r5 ∧ a6 = r6 ∧ a7 = r7 ∧ a8 = r8 ∧ a9 = r9 ∧ a10 = r10 ∧ a11 = r11 ∧ a12 = r12 ∧ a13 = r13 ∧ a14 = r14 := by
  cases hf
  exact ⟨rfl, rfl, rfl, rfl, rfl, rfl, rfl, rfl, rfl, rfl, rfl, rfl, rfl, rfl⟩
def bd16 {a1 a2 a3 a4 a5 a6 a7 a8 a9 a10 a11 a12 a13 a14 a15 a16 β : Type} (o : Option (a1 × a2 × a3 × a4 × a5 × a6 × a7 × a8 × a9 × a10 × a11 × a12 × a13 × a14 × a15 × a16)) (k : a1 → a2 → a3 → a4 → a5 → a6 → a7 → a8 → a9 → a10 → a11 → a12 → a13 → a14 → a15 → a16 → Option β) : Option β := o.bind fun x => k x.1 x.2.1 x.2.2.1 x.2.2.2.1 x.2.2.2.2.1 x.2.2.2.2.2.1 x.2.2.2.2.2.2.1 x.2.2.2.2.2.2.2.1 x.2.2.2.2.2.2.2.2.1 x.2.2.2.2.2.2.2.2.2.1 x.2.2.2.2.2.2.2.2.2.2.1 x.2.2.2.2.2.2.2.2.2.2.2.1 x.2.2.2.2.2.2.2.2.2.2.2.2.1 x.2.2.2.2.2.2.2.2.2.2.2.2.2.1 x.2.2.2.2.2.2.2.2.2.2.2.2.2.2.1 x.2.2.2.2.2.2.2.2.2.2.2.2.2.2.2
theorem bd16_some {a1 a2 a3 a4 a5 a6 a7 a8 a9 a10 a11 a12 a13 a14 a15 a16 β : Type} {o : Option (a1 × a2 × a3 × a4 × a5 × a6 × a7 × a8 × a9 × a10 × a11 × a12 × a13 × a14 × a15 × a16)} {k : a1 → a2 → a3 → a4 → a5 → a6 → a7 → a8 → a9 → a10 → a11 → a12 → a13 → a14 → a15 → a16 → Option β} {r : β} (h : bd16 o k = some r) : ∃ x1 x2 x3 x4 x5 x6 x7 x8 x9 x10 x11 x12 x13 x14 x15 x16, o = some (x1, x2, x3, x4, x5, x6, x7, x8, x9, x10, x11, x12, x13, x14, x15, x16) ∧ k x1 x2 x3 x4 x5 x6 x7 x8 x9 x10 x11 x12 x13 x14 x15 x16 = some r := by
  cases o with
  | none => cases h
  | some x => exact ⟨x.1, x.2.1, x.2.2.1, x.2.2.2.1, x.2.2.2.2.1, x.2.2.2.2.2.1, x.2.2.2.2.2.2.1, x.2.2.2.2.2.2.2.1, x.2.2.2.2.2.2.2.2.1, x.2.2.2.2.2.2.2.2.2.1, x.2.2.2.2.2.2.2.2.2.2.1, x.2.2.2.2.2.2.2.2.2.2.2.1, x.2.2.2.2.2.2.2.2.2.2.2.2.1, x.2.2.2.2.2.2.2.2.2.2.2.2.2.1, x.2.2.2.2.2.2.2.2.2.2.2.2.2.2.1, x.2.2.2.2.2.2.2.2.2.2.2.2.2.2.2, rfl, h⟩
theorem bd16_eq {a1 a2 a3 a4 a5 a6 a7 a8 a9 a10 a11 a12 a13 a14 a15 a16 β : Type} {x1 : a1} {x2 : a2} {x3 : a3} {x4 : a4} {x5 : a5} {x6 : a6} {x7 : a7} {x8 : a8} {x9 : a9} {x10 : a10} {x11 : a11} {x12 : a12} {x13 : a13} {x14 : a14} {x15 : a15} {x16 : a16} (k : a1 → a2 → a3 → a4 → a5 → a6 → a7 → a8 → a9 → a10 → a11 → a12 → a13 → a14 → a15 → a16 → Option β) : bd16 (some (x1, x2, x3, x4, x5, x6, x7, x8, x9, x10, x11, x12, x13, x14, x15, x16)) k = k x1 x2 x3 x4 x5 x6 x7 x8 x9 x10 x11 x12 x13 x14 x15 x16 := rfl
theorem lf16 {t1 t2 t3 t4 t5 t6 t7 t8 t9 t10 t11 t12 t13 t14 t15 t16 : Type} {a1 : t1} {a2 : t2} {a3 : t3} {a4 : t4} {a5 : t5} {a6 : t6} {a7 : t7} {a8 : t8} {a9 : t9} {a10 : t10} {a11 : t11} {a12 : t12} {a13 : t13} {a14 : t14} {a15 : t15} {a16 : t16} {r1 : t1} {r2 : t2} {r3 : t3} {r4 : t4} {r5 : t5} {r6 : t6} {r7 : t7} {r8 : t8} {r9 : t9} {r10 : t10} {r11 : t11} {r12 : t12} {r13 : t13} {r14 : t14} {r15 : t15} {r16 : t16} (hf : some (a1, a2, a3, a4, a5, a6, a7, a8, a9, a10, a11, a12, a13, a14, a15, a16) = some (r1, r2, r3, r4, r5, r6, r7, r8, r9, r10, r11, r12, r13, r14, r15, r16)) : a1 = r1 ∧ a2 = r2 ∧ a3 = r3 ∧ a4 = r4 ∧ a5 = r5 ∧ a6 = r6 ∧ a7 = r7 ∧ a8 = r8 ∧ a9 = r9 ∧ a10 = r10 ∧ a11 = r11 ∧ a12 = r12 ∧ a13 = r13 ∧ a14 = r14 ∧ a15 = r15 ∧ a16 = r16 := by
  cases hf
  exact ⟨rfl, rfl, rfl, rfl, rfl, rfl, rfl, rfl, rfl, rfl, rfl, rfl, rfl, rfl, rfl, rfl⟩
def bd17 {a1 a2 a3 a4 a5 a6 a7 a8 a9 a10 a11 a12 a13 a14 a15 a16 a17 β : Type} (o : Option (a1 × a2 × a3 × a4 × a5 × a6 × a7 × a8 × a9 × a10 × a11 × a12 × a13 × a14 × a15 × a16 × a17)) (k : a1 → a2 → a3 → a4 → a5 → a6 → a7 → a8 → a9 → a10 → a11 → a12 → a13 → a14 → a15 → a16 → a17 → Option β) : Option β := o.bind fun x => k x.1 x.2.1 x.2.2.1 x.2.2.2.1 x.2.2.2.2.1 x.2.2.2.2.2.1 x.2.2.2.2.2.2.1 x.2.2.2.2.2.2.2.1 x.2.2.2.2.2.2.2.2.1 x.2.2.2.2.2.2.2.2.2.1 x.2.2.2.2.2.2.2.2.2.2.1 x.2.2.2.2.2.2.2.2.2.2.2.1 x.2.2.2.2.2.2.2.2.2.2.2.2.1 x.2.2.2.2.2.2.2.2.2.2.2.2.2.1 x.2.2.2.2.2.2.2.2.2.2.2.2.2.2.1 x.2.2.2.2.2.2.2.2.2.2.2.2.2.2.2.1 x.2.2.2.2.2.2.2.2.2.2.2.2.2.2.2.2
theorem bd17_some {a1 a2 a3 a4 a5 a6 a7 a8 a9 a10 a11 a12 a13 a14 a15 a16 a17 β : Type} {o : Option (a1 × a2 × a3 × a4 × a5 × a6 × a7 × a8 × a9 × a10 × a11 × a12 × a13 × a14 × a15 × a16 × a17)} {k : a1 → a2 → a3 → a4 → a5 → a6 → a7 → a8 → a9 → a10 → a11 → a12 → a13 → a14 → a15 → a16 → a17 → Option β} {r : β} (h : bd17 o k = some r) : ∃ x1 x2 x3 x4 x5 x6 x7 x8 x9 x10 x11 x12 x13 x14 x15 x16 x17, o = some (x1, x2, x3, x4, x5, x6, x7, x8, x9, x10, x11, x12, x13, x14, x15, x16, x17) ∧ k x1 x2 x3 x4 x5 x6 x7 x8 x9 x10 x11 x12 x13 x14 x15 x16 x17 = some r := by
  cases o with
  | none => cases h
  | some x => exact ⟨x.1, x.2.1, x.2.2.1, x.2.2.2.1, x.2.2.2.2.1, x.2.2.2.2.2.1, x.2.2.2.2.2.2.1, x.2.2.2.2.2.2.2.1, x.2.2.2.2.2.2.2.2.1, x.2.2.2.2.2.2.2.2.2.1, x.2.2.2.2.2.2.2.2.2.2.1, x.2.2.2.2.2.2.2.2.2.2.2.1, x.2.2.2.2.2.2.2.2.2.2.2.2.1, x.2.2.2.2.2.2.2.2.2.2.2.2.2.1, x.2.2.2.2.2.2.2.2.2.2.2.2.2.2.1, x.2.2.2.2.2.2.2.2.2.2.2.2.2.2.2.1, x.2.2.2.2.2.2.2.2.2.2.2.2.2.2.2.2, rfl, h⟩
theorem bd17_eq {a1 a2 a3 a4 a5 a6 a7 a8 a9 a10 a11 a12 a13 a14 a15 a16 a17 β : Type} {x1 : a1} {x2 : a2} {x3 : a3} {x4 : a4} {x5 : a5} {x6 : a6} {x7 : a7} {x8 : a8} {x9 : a9} {x10 : a10} {x11 : a11} {x12 : a12} {x13 : a13} {x14 : a14} {x15 : a15} {x16 : a16} {x17 : a17} (k : a1 → a2 → a3 → a4 → a5 → a6 → a7 → a8 → a9 → a10 → a11 → a12 → a13 → a14 → a15 → a16 → a17 → Option β) : bd17 (some (x1, x2, x3, x4, x5, x6, x7, x8, x9, x10, x11, x12, x13, x14, x15, x16, x17)) k = k x1 x2 x3 x4 x5 x6 x7 x8 x9 x10 x11 x12 x13 x14 x15 x16 x17 := rfl
theorem lf17 {t1 t2 t3 t4 t5 t6 t7 t8 t9 t10 t11 t12 t13 t14 t15 t16 t17 : Type} {a1 : t1} {a2 : t2} {a3 : t3} {a4 : t4} {a5 : t5} {a6 : t6} {a7 : t7} {a8 : t8} {a9 : t9} {a10 : t10} {a11 : t11} {a12 : t12} {a13 : t13} {a14 : t14} {a15 : t15} {a16 : t16} {a17 : t17} {r1 : t1} {r2 : t2} {r3 : t3} {r4 : t4} {r5 : t5} {r6 : t6} {r7 : t7} {r8 : t8} {r9 : t9} {r10 : t10} {r11 : t11} {r12 : t12} {r13 : t13} {r14 : t14} {r15 : t15} {r16 : t16} {r17 : t17} (hf : some (a1, a2, a3, a4, a5, a6, a7, a8, a9, a10, a11, a12, a13, a14, a15, a16, a17) = some (r1, r2, r3, r4, r5, r6, r7, r8, r9, r10, r11, r12, r13, r14, r15, r16, r17)) : a1 = r1 ∧ a2 = r2 ∧ a3 = r3 ∧ a4 = r4 ∧ a5 = r5 ∧ a6 = r6 ∧ a7 = r7 ∧ a8 = r8 ∧ a9 = r9 ∧ a10 = r10 ∧ a11 = r11 ∧ a12 = r12 ∧ a13 = r13 ∧ a14 = r14 ∧ a15 = r15 ∧ a16 = r16 ∧ a17 = r17 := by
  cases hf
  exact ⟨rfl, rfl, rfl, rfl, rfl, rfl, rfl, rfl, rfl, rfl, rfl, rfl, rfl, rfl, rfl, rfl, rfl⟩
-- contracts of one kind: the world w comes in, the world w' goes out, nothing is made
def CtI (l : Launch) (y : MethodName) (ws : List Cond) (rm : Room) (D : va_G) (tys : List (ClassId × FieldType)) (av : List Value) (w w' : va_W) (r : Int32) : Prop := ∀ sz : Nat, Met l y ws rm (va_Pc av (fun U => U.heap.size = sz ∧ va_P D vwCl w U.heap ∧ va_K D vwCl tys U ∧ va_D (fun _ => True) w)) (va_Qi (fun (r' : Int32) (_ : Unit) => r' = r) (fun _ t => va_P D vwCl w' t.heap ∧ va_K D vwCl tys t ∧ va_D (va_A w sz) w') (va_A w sz)) 0 0 (va_A w sz)
def CtZ (l : Launch) (y : MethodName) (ws : List Cond) (rm : Room) (D : va_G) (tys : List (ClassId × FieldType)) (av : List Value) (w w' : va_W) (r : Int32) : Prop := ∀ sz : Nat, Met l y ws rm (va_Pc av (fun U => U.heap.size = sz ∧ va_P D vwCl w U.heap ∧ va_K D vwCl tys U ∧ va_D (fun _ => True) w)) (va_Qi (fun (r' : Int32) (_ : Unit) => r' = r ∧ narrow .boolean (.int r) = .int r) (fun _ t => va_P D vwCl w' t.heap ∧ va_K D vwCl tys t ∧ va_D (va_A w sz) w') (va_A w sz)) 0 0 (va_A w sz)
def CtV (l : Launch) (y : MethodName) (ws : List Cond) (rm : Room) (D : va_G) (tys : List (ClassId × FieldType)) (av : List Value) (w w' : va_W) : Prop := ∀ sz : Nat, Met l y ws rm (va_Pc av (fun U => U.heap.size = sz ∧ va_P D vwCl w U.heap ∧ va_K D vwCl tys U ∧ va_D (fun _ => True) w)) (va_Qv (fun (_ : Unit) => True) (fun _ t => va_P D vwCl w' t.heap ∧ va_K D vwCl tys t ∧ va_D (va_A w sz) w') (va_A w sz)) 0 0 (va_A w sz)
def CtR (l : Launch) (y : MethodName) (ws : List Cond) (rm : Room) (D : va_G) (tys : List (ClassId × FieldType)) (av : List Value) (w w' : va_W) (q : Nat) : Prop := ∀ sz : Nat, Met l y ws rm (va_Pc av (fun U => U.heap.size = sz ∧ va_P D vwCl w U.heap ∧ va_K D vwCl tys U ∧ va_D (fun _ => True) w)) (va_Qr (fun (_ : Unit) => True) (fun _ a t => a = q ∧ va_P D vwCl w' t.heap ∧ va_K D vwCl tys t ∧ va_D (va_A w sz) w') (va_A w sz)) 0 0 (va_A w sz)
def CtN (l : Launch) (y : MethodName) (ws : List Cond) (rm : Room) (D : va_G) (tys : List (ClassId × FieldType)) (av : List Value) (w : va_W) {S : Type} (w' : S → va_W) (mc ms : Nat) : Prop := ∀ sz : Nat, Met l y ws rm (va_Pc av (fun U => U.heap.size = sz ∧ va_P D vwCl w U.heap ∧ va_K D vwCl tys U ∧ va_D (fun _ => True) w)) (va_Qv (fun (_ : S) => True) (fun u t => va_P D vwCl (w' u) t.heap ∧ va_K D vwCl tys t ∧ va_D (va_A w sz) (w' u)) (va_A w sz)) mc ms (va_A w sz)
theorem xsubP {D : va_G} {cl : List vw_C} {ws wc : va_W} {H : Heap} (h : va_P D cl ws H) (is : List Nat) (hC : is.map (fun i => ws[i]?) = wc.map some) : va_P D cl wc H := by
  intro k q hk
  have h1 : (is.map (fun i => ws[i]?))[k]? = some (some q) := by rw [hC, List.getElem?_map, hk]; rfl
  rw [List.getElem?_map] at h1
  cases hi : is[k]? with
  | none => rw [hi] at h1; cases h1
  | some i => rw [hi] at h1; exact h i q (Option.some.inj h1)

section XCALL
variable {p : Program} {l : Launch} {e : Env} {R : Room} {s : State} {m : MethodId} {args : Array Value} {below : List Frame} {meth : Method} {c : Code} {H : Heap} {locs : List Loc} {cells slots : Nat} {Q : State → Prop}
variable {y : MethodName} {bytes cc : ByteArray} {maxL nL n index pc : Nat} {ret : Option FieldType} {ws : List Cond} {rm : Room} {Ts : List Cond} {own C host : String} {b : Addr} {As rest st0 : List Value} {ls : Array Slot} {D : va_G} {tys : List (ClassId × FieldType)} {A : Nat → Prop} {w wc wc' wr : va_W} {r : Int32}
theorem xfb {D : va_G} {tys : List (ClassId × FieldType)} {av : List Value} {wc : va_W} {sz : Nat} : FrameBlind (va_Pc av (fun U => U.heap.size = sz ∧ va_P D vwCl wc U.heap ∧ va_K D vwCl tys U ∧ va_D (fun _ => True) wc)) := fun a U g mk q => by
  obtain ⟨q0, q1, qP, qK, qD⟩ := q
  exact ⟨q0, q1, qP, va_K.moved (u := U) (U := U.calling g mk a) (Vm.Alike.refl U.vm) qK, qD⟩
theorem xloop {σ : Type} (Inv : Nat → σ → Heap → List Loc → Array Slot → Prop) {pc : Nat}
    (hs : ∀ n : Nat, (∀ (x : σ) (H : Heap) (locs : List Loc) (ls : Array Slot), Inv n x H locs ls → W p l e R s m args below meth c H locs cells slots Q (F0 m pc ls [])) → ∀ (x : σ) (H : Heap) (locs : List Loc) (ls : Array Slot), Inv (n + 1) x H locs ls → W p l e R s m args below meth c H locs cells slots Q (F0 m pc ls []))
    (h0 : ∀ (x : σ) (H : Heap) (locs : List Loc) (ls : Array Slot), ¬ Inv 0 x H locs ls) :
    ∀ (n : Nat) (x : σ) (H : Heap) (locs : List Loc) (ls : Array Slot), Inv n x H locs ls → W p l e R s m args below meth c H locs cells slots Q (F0 m pc ls []) := by
  intro n
  induction n with
  | zero => intro x H locs ls h; exact absurd h (h0 x H locs ls)
  | succ n ih => exact hs n ih

theorem xgi {a : Array Value} (hr : va_Run p l e R s m args below meth c H locs cells slots 0 0 (F0 m pc ls st0) rest (va_Qi (fun (r' : Int32) (_ : Unit) => r' = r) (fun _ t => va_P D vwCl wc' t.heap ∧ va_K D vwCl tys t ∧ va_D (va_A wc H.size) wc') (va_A wc H.size) a) (va_A wc H.size)) (hP : va_P D vwCl w H) (hD : va_D A w) (hS : va_S A s.heap H locs) (hA : ∀ q, s.heap.size ≤ q → A q)
    (isC isR : List Nat) (hC : isC.map (fun i => w[i]?) = wc.map some) (hR : isR.map (fun i => w[i]?) = wr.map some) (hnR : va_nd isR = true) (hdis : ∀ i ∈ isR, i ∉ isC)
    (kk : ∀ (H : Heap) (locs : List Loc), va_P D vwCl (wr ++ wc') H → va_D A (wr ++ wc') → va_S A s.heap H locs → W p l e R s m args below meth c H locs cells slots Q (F0 m (pc + 3) ls (.int r :: rest))) : W p l e R s m args below meth c H locs cells slots Q (F0 m pc ls st0) := by
  have hFc := va_free (wc := wc) hD hS hA isC hC
  refine va_calli hr hS (fun q _ h => hFc q h) hFc (fun r' u t H1 locs1 ht hvm hr' hB hz1 hk1 hS1 => ?_)
  subst hr'
  obtain ⟨hP1, hK1, hD1⟩ := hB
  rw [ht] at hP1
  obtain ⟨hP', hD'⟩ := va_join (wr := wr) (w1 := wc') hP hD isC isR hC hR hnR hdis hk1 hFc hP1 hD1
  exact kk H1 locs1 hP' hD' hS1
theorem xci (hM : CtI l y ws rm D tys (.ref b :: As) wc wc' r) (S : CallFix p m c cc nL s args Ts own) (cw : CallW R s args own C index y bytes maxL ret ws rm 0 0 n) (hK : va_K D vwCl tys s) (hP : va_P D vwCl w H) (hD : va_D A w) (hS : va_S A s.heap H locs) (hA : ∀ q, s.heap.size ≤ q → A q)
    (isC isR : List Nat) (hC : isC.map (fun i => w[i]?) = wc.map some) (hR : isR.map (fun i => w[i]?) = wr.map some) (hnC : va_nd isC = true) (hnR : va_nd isR = true) (hdis : ∀ i ∈ isR, i ∉ isC)
    {ci : Nat} {q : vw_C} {fs : List Value} {q0 : Nat} (hcl : vwCl[ci]? = some q) (hq : q.1 = C) (he : w[q0]? = some (b, .inr (ci, fs)))
    (hn : As.length = n) (hsz : ls.size = nL) (hst : st0 = As.reverse ++ .ref b :: rest) (hW : (rest.map fun v => v.category).sum ≤ 8) (hdg : decode cc pc = .ok (.invokevirtual index, 3)) (hf : cells ≤ R.cells ∧ slots ≤ R.slots)
    (kk : ∀ (H : Heap) (locs : List Loc), va_P D vwCl (wr ++ wc') H → va_D A (wr ++ wc') → va_S A s.heap H locs → W p l e R s m args below meth c H locs cells slots Q (F0 m (pc + 3) ls (.int r :: rest))) : W p l e R s m args below meth c H locs cells slots Q (F0 m pc ls st0) := by
  have hrc := va_recv hK hP hcl he
  rw [hq] at hrc
  refine xgi (va_runV S (hM H.size) cw ⟨xfb, hrc, fun U hU hW => ⟨rfl, by rw [hU], by rw [hU]; exact xsubP hP isC hC, va_K.moved hW.alike hK, (hD.sub isC hnC hC).weaken (fun _ _ _ _ => trivial)⟩⟩ rfl hn hsz hst (lv_room hW) hdg hf) hP hD hS hA isC isR hC hR hnR hdis kk
theorem xcNi (hM : CtI l y ws rm D tys (.ref b :: As) wc wc' r) (S : CallFix p m c cc nL s args Ts own) (cw : va_CN R s args own index y host bytes maxL ret ws rm 0 0 n ∧ (Cond.instanceMethod y).before args s = true ∧ (Cond.selects C y y).before args s = true) (hK : va_K D vwCl tys s) (hP : va_P D vwCl w H) (hD : va_D A w) (hS : va_S A s.heap H locs) (hA : ∀ q, s.heap.size ≤ q → A q)
    (isC isR : List Nat) (hC : isC.map (fun i => w[i]?) = wc.map some) (hR : isR.map (fun i => w[i]?) = wr.map some) (hnC : va_nd isC = true) (hnR : va_nd isR = true) (hdis : ∀ i ∈ isR, i ∉ isC)
    {ci : Nat} {q : vw_C} {fs : List Value} {q0 : Nat} (hcl : vwCl[ci]? = some q) (hq : q.1 = C) (he : w[q0]? = some (b, .inr (ci, fs)))
    (hn : As.length = n) (hsz : ls.size = nL) (hst : st0 = As.reverse ++ .ref b :: rest) (hW : (rest.map fun v => v.category).sum ≤ 8) (hdg : decode cc pc = .ok (.invokevirtual index, 3)) (hf : cells ≤ R.cells ∧ slots ≤ R.slots)
    (kk : ∀ (H : Heap) (locs : List Loc), va_P D vwCl (wr ++ wc') H → va_D A (wr ++ wc') → va_S A s.heap H locs → W p l e R s m args below meth c H locs cells slots Q (F0 m (pc + 3) ls (.int r :: rest))) : W p l e R s m args below meth c H locs cells slots Q (F0 m pc ls st0) := by
  have hrc := va_recv hK hP hcl he
  rw [hq] at hrc
  refine xgi (va_runVN S (hM H.size) cw ⟨xfb, hrc, fun U hU hW => ⟨rfl, by rw [hU], by rw [hU]; exact xsubP hP isC hC, va_K.moved hW.alike hK, (hD.sub isC hnC hC).weaken (fun _ _ _ _ => trivial)⟩⟩ rfl hn hsz hst (lv_room hW) hdg hf) hP hD hS hA isC isR hC hR hnR hdis kk
theorem xsi (hM : CtI l y ws rm D tys As [] [] r) (S : CallFix p m c cc nL s args Ts own) (cw : CallB R s args own index y bytes maxL ret ws rm 0 0 n ∧ (Cond.static y).before args s = true) (hK : va_K D vwCl tys s) (hP : va_P D vwCl w H) (hD : va_D A w) (hS : va_S A s.heap H locs) (hA : ∀ q, s.heap.size ≤ q → A q)
    (hn : As.length = n) (hsz : ls.size = nL) (hst : st0 = As.reverse ++ rest) (hW : (rest.map fun v => v.category).sum ≤ 8) (hdg : decode cc pc = .ok (.invokestatic index, 3)) (hf : cells ≤ R.cells ∧ slots ≤ R.slots)
    (kk : ∀ (H : Heap) (locs : List Loc), va_P D vwCl w H → va_D A w → va_S A s.heap H locs → W p l e R s m args below meth c H locs cells slots Q (F0 m (pc + 3) ls (.int r :: rest))) : W p l e R s m args below meth c H locs cells slots Q (F0 m pc ls st0) := by
  have hnil : va_P D vwCl [] H := fun k q hk => by cases hk
  have hnilD : va_D (fun _ => True) [] := ⟨fun i j p q hp => by simp at hp, fun k q hk => by simp at hk⟩
  have hFc : ∀ q, va_A [] H.size q → A q := fun q h => by
    rcases h with ⟨k, e, h⟩ | h
    · simp at h
    · exact hA q (Nat.le_trans hS.1 h)
  refine va_calli (va_runS S (hM H.size) cw ⟨xfb, fun U hU hW => ⟨rfl, by rw [hU], by rw [hU]; exact hnil, va_K.moved hW.alike hK, hnilD⟩⟩ rfl hn hsz hst (lv_room hW) hdg hf) hS (fun q _ h => hFc q h) hFc (fun r' u t H1 locs1 ht hvm hr' hB hz1 hk1 hS1 => ?_)
  subst hr'
  have hkept : va_P D vwCl w H1 := hP.kept (fun k q hk => hk1 q.1 (hP k q hk).lt (fun h => by
    rcases h with ⟨k2, e2, h2⟩ | h2
    · simp at h2
    · exact absurd (hP k q hk).lt (Nat.not_lt.mpr h2)))
  exact kk H1 locs1 hkept hD hS1
theorem xsNi (hM : CtI l y ws rm D tys As [] [] r) (S : CallFix p m c cc nL s args Ts own) (cw : va_CN R s args own index y host bytes maxL ret ws rm 0 0 n ∧ (Cond.static y).before args s = true ∧ True) (hK : va_K D vwCl tys s) (hP : va_P D vwCl w H) (hD : va_D A w) (hS : va_S A s.heap H locs) (hA : ∀ q, s.heap.size ≤ q → A q)
    (hn : As.length = n) (hsz : ls.size = nL) (hst : st0 = As.reverse ++ rest) (hW : (rest.map fun v => v.category).sum ≤ 8) (hdg : decode cc pc = .ok (.invokestatic index, 3)) (hf : cells ≤ R.cells ∧ slots ≤ R.slots)
    (kk : ∀ (H : Heap) (locs : List Loc), va_P D vwCl w H → va_D A w → va_S A s.heap H locs → W p l e R s m args below meth c H locs cells slots Q (F0 m (pc + 3) ls (.int r :: rest))) : W p l e R s m args below meth c H locs cells slots Q (F0 m pc ls st0) := by
  have hnil : va_P D vwCl [] H := fun k q hk => by cases hk
  have hnilD : va_D (fun _ => True) [] := ⟨fun i j p q hp => by simp at hp, fun k q hk => by simp at hk⟩
  have hFc : ∀ q, va_A [] H.size q → A q := fun q h => by
    rcases h with ⟨k, e, h⟩ | h
    · simp at h
    · exact hA q (Nat.le_trans hS.1 h)
  refine va_calli (va_runSN S (hM H.size) cw ⟨xfb, fun U hU hW => ⟨rfl, by rw [hU], by rw [hU]; exact hnil, va_K.moved hW.alike hK, hnilD⟩⟩ rfl hn hsz hst (lv_room hW) hdg hf) hS (fun q _ h => hFc q h) hFc (fun r' u t H1 locs1 ht hvm hr' hB hz1 hk1 hS1 => ?_)
  subst hr'
  have hkept : va_P D vwCl w H1 := hP.kept (fun k q hk => hk1 q.1 (hP k q hk).lt (fun h => by
    rcases h with ⟨k2, e2, h2⟩ | h2
    · simp at h2
    · exact absurd (hP k q hk).lt (Nat.not_lt.mpr h2)))
  exact kk H1 locs1 hkept hD hS1
theorem xgz {a : Array Value} (hr : va_Run p l e R s m args below meth c H locs cells slots 0 0 (F0 m pc ls st0) rest (va_Qi (fun (r' : Int32) (_ : Unit) => r' = r ∧ narrow .boolean (.int r) = .int r) (fun _ t => va_P D vwCl wc' t.heap ∧ va_K D vwCl tys t ∧ va_D (va_A wc H.size) wc') (va_A wc H.size) a) (va_A wc H.size)) (hP : va_P D vwCl w H) (hD : va_D A w) (hS : va_S A s.heap H locs) (hA : ∀ q, s.heap.size ≤ q → A q)
    (isC isR : List Nat) (hC : isC.map (fun i => w[i]?) = wc.map some) (hR : isR.map (fun i => w[i]?) = wr.map some) (hnR : va_nd isR = true) (hdis : ∀ i ∈ isR, i ∉ isC)
    (kk : ∀ (H : Heap) (locs : List Loc), narrow .boolean (.int r) = .int r → va_P D vwCl (wr ++ wc') H → va_D A (wr ++ wc') → va_S A s.heap H locs → W p l e R s m args below meth c H locs cells slots Q (F0 m (pc + 3) ls (.int r :: rest))) : W p l e R s m args below meth c H locs cells slots Q (F0 m pc ls st0) := by
  have hFc := va_free (wc := wc) hD hS hA isC hC
  refine va_calli hr hS (fun q _ h => hFc q h) hFc (fun r' u t H1 locs1 ht hvm hr' hB hz1 hk1 hS1 => ?_)
  obtain ⟨hr1, hr2⟩ := hr'
  subst hr1
  obtain ⟨hP1, hK1, hD1⟩ := hB
  rw [ht] at hP1
  obtain ⟨hP', hD'⟩ := va_join (wr := wr) (w1 := wc') hP hD isC isR hC hR hnR hdis hk1 hFc hP1 hD1
  exact kk H1 locs1 hr2 hP' hD' hS1
theorem xcz (hM : CtZ l y ws rm D tys (.ref b :: As) wc wc' r) (S : CallFix p m c cc nL s args Ts own) (cw : CallW R s args own C index y bytes maxL ret ws rm 0 0 n) (hK : va_K D vwCl tys s) (hP : va_P D vwCl w H) (hD : va_D A w) (hS : va_S A s.heap H locs) (hA : ∀ q, s.heap.size ≤ q → A q)
    (isC isR : List Nat) (hC : isC.map (fun i => w[i]?) = wc.map some) (hR : isR.map (fun i => w[i]?) = wr.map some) (hnC : va_nd isC = true) (hnR : va_nd isR = true) (hdis : ∀ i ∈ isR, i ∉ isC)
    {ci : Nat} {q : vw_C} {fs : List Value} {q0 : Nat} (hcl : vwCl[ci]? = some q) (hq : q.1 = C) (he : w[q0]? = some (b, .inr (ci, fs)))
    (hn : As.length = n) (hsz : ls.size = nL) (hst : st0 = As.reverse ++ .ref b :: rest) (hW : (rest.map fun v => v.category).sum ≤ 8) (hdg : decode cc pc = .ok (.invokevirtual index, 3)) (hf : cells ≤ R.cells ∧ slots ≤ R.slots)
    (kk : ∀ (H : Heap) (locs : List Loc), narrow .boolean (.int r) = .int r → va_P D vwCl (wr ++ wc') H → va_D A (wr ++ wc') → va_S A s.heap H locs → W p l e R s m args below meth c H locs cells slots Q (F0 m (pc + 3) ls (.int r :: rest))) : W p l e R s m args below meth c H locs cells slots Q (F0 m pc ls st0) := by
  have hrc := va_recv hK hP hcl he
  rw [hq] at hrc
  refine xgz (va_runV S (hM H.size) cw ⟨xfb, hrc, fun U hU hW => ⟨rfl, by rw [hU], by rw [hU]; exact xsubP hP isC hC, va_K.moved hW.alike hK, (hD.sub isC hnC hC).weaken (fun _ _ _ _ => trivial)⟩⟩ rfl hn hsz hst (lv_room hW) hdg hf) hP hD hS hA isC isR hC hR hnR hdis kk
theorem xcNz (hM : CtZ l y ws rm D tys (.ref b :: As) wc wc' r) (S : CallFix p m c cc nL s args Ts own) (cw : va_CN R s args own index y host bytes maxL ret ws rm 0 0 n ∧ (Cond.instanceMethod y).before args s = true ∧ (Cond.selects C y y).before args s = true) (hK : va_K D vwCl tys s) (hP : va_P D vwCl w H) (hD : va_D A w) (hS : va_S A s.heap H locs) (hA : ∀ q, s.heap.size ≤ q → A q)
    (isC isR : List Nat) (hC : isC.map (fun i => w[i]?) = wc.map some) (hR : isR.map (fun i => w[i]?) = wr.map some) (hnC : va_nd isC = true) (hnR : va_nd isR = true) (hdis : ∀ i ∈ isR, i ∉ isC)
    {ci : Nat} {q : vw_C} {fs : List Value} {q0 : Nat} (hcl : vwCl[ci]? = some q) (hq : q.1 = C) (he : w[q0]? = some (b, .inr (ci, fs)))
    (hn : As.length = n) (hsz : ls.size = nL) (hst : st0 = As.reverse ++ .ref b :: rest) (hW : (rest.map fun v => v.category).sum ≤ 8) (hdg : decode cc pc = .ok (.invokevirtual index, 3)) (hf : cells ≤ R.cells ∧ slots ≤ R.slots)
    (kk : ∀ (H : Heap) (locs : List Loc), narrow .boolean (.int r) = .int r → va_P D vwCl (wr ++ wc') H → va_D A (wr ++ wc') → va_S A s.heap H locs → W p l e R s m args below meth c H locs cells slots Q (F0 m (pc + 3) ls (.int r :: rest))) : W p l e R s m args below meth c H locs cells slots Q (F0 m pc ls st0) := by
  have hrc := va_recv hK hP hcl he
  rw [hq] at hrc
  refine xgz (va_runVN S (hM H.size) cw ⟨xfb, hrc, fun U hU hW => ⟨rfl, by rw [hU], by rw [hU]; exact xsubP hP isC hC, va_K.moved hW.alike hK, (hD.sub isC hnC hC).weaken (fun _ _ _ _ => trivial)⟩⟩ rfl hn hsz hst (lv_room hW) hdg hf) hP hD hS hA isC isR hC hR hnR hdis kk
theorem xsz (hM : CtZ l y ws rm D tys As [] [] r) (S : CallFix p m c cc nL s args Ts own) (cw : CallB R s args own index y bytes maxL ret ws rm 0 0 n ∧ (Cond.static y).before args s = true) (hK : va_K D vwCl tys s) (hP : va_P D vwCl w H) (hD : va_D A w) (hS : va_S A s.heap H locs) (hA : ∀ q, s.heap.size ≤ q → A q)
    (hn : As.length = n) (hsz : ls.size = nL) (hst : st0 = As.reverse ++ rest) (hW : (rest.map fun v => v.category).sum ≤ 8) (hdg : decode cc pc = .ok (.invokestatic index, 3)) (hf : cells ≤ R.cells ∧ slots ≤ R.slots)
    (kk : ∀ (H : Heap) (locs : List Loc), narrow .boolean (.int r) = .int r → va_P D vwCl w H → va_D A w → va_S A s.heap H locs → W p l e R s m args below meth c H locs cells slots Q (F0 m (pc + 3) ls (.int r :: rest))) : W p l e R s m args below meth c H locs cells slots Q (F0 m pc ls st0) := by
  have hnil : va_P D vwCl [] H := fun k q hk => by cases hk
  have hnilD : va_D (fun _ => True) [] := ⟨fun i j p q hp => by simp at hp, fun k q hk => by simp at hk⟩
  have hFc : ∀ q, va_A [] H.size q → A q := fun q h => by
    rcases h with ⟨k, e, h⟩ | h
    · simp at h
    · exact hA q (Nat.le_trans hS.1 h)
  refine va_calli (va_runS S (hM H.size) cw ⟨xfb, fun U hU hW => ⟨rfl, by rw [hU], by rw [hU]; exact hnil, va_K.moved hW.alike hK, hnilD⟩⟩ rfl hn hsz hst (lv_room hW) hdg hf) hS (fun q _ h => hFc q h) hFc (fun r' u t H1 locs1 ht hvm hr' hB hz1 hk1 hS1 => ?_)
  obtain ⟨hr1, hr2⟩ := hr'
  subst hr1
  have hkept : va_P D vwCl w H1 := hP.kept (fun k q hk => hk1 q.1 (hP k q hk).lt (fun h => by
    rcases h with ⟨k2, e2, h2⟩ | h2
    · simp at h2
    · exact absurd (hP k q hk).lt (Nat.not_lt.mpr h2)))
  exact kk H1 locs1 hr2 hkept hD hS1
theorem xsNz (hM : CtZ l y ws rm D tys As [] [] r) (S : CallFix p m c cc nL s args Ts own) (cw : va_CN R s args own index y host bytes maxL ret ws rm 0 0 n ∧ (Cond.static y).before args s = true ∧ True) (hK : va_K D vwCl tys s) (hP : va_P D vwCl w H) (hD : va_D A w) (hS : va_S A s.heap H locs) (hA : ∀ q, s.heap.size ≤ q → A q)
    (hn : As.length = n) (hsz : ls.size = nL) (hst : st0 = As.reverse ++ rest) (hW : (rest.map fun v => v.category).sum ≤ 8) (hdg : decode cc pc = .ok (.invokestatic index, 3)) (hf : cells ≤ R.cells ∧ slots ≤ R.slots)
    (kk : ∀ (H : Heap) (locs : List Loc), narrow .boolean (.int r) = .int r → va_P D vwCl w H → va_D A w → va_S A s.heap H locs → W p l e R s m args below meth c H locs cells slots Q (F0 m (pc + 3) ls (.int r :: rest))) : W p l e R s m args below meth c H locs cells slots Q (F0 m pc ls st0) := by
  have hnil : va_P D vwCl [] H := fun k q hk => by cases hk
  have hnilD : va_D (fun _ => True) [] := ⟨fun i j p q hp => by simp at hp, fun k q hk => by simp at hk⟩
  have hFc : ∀ q, va_A [] H.size q → A q := fun q h => by
    rcases h with ⟨k, e, h⟩ | h
    · simp at h
    · exact hA q (Nat.le_trans hS.1 h)
  refine va_calli (va_runSN S (hM H.size) cw ⟨xfb, fun U hU hW => ⟨rfl, by rw [hU], by rw [hU]; exact hnil, va_K.moved hW.alike hK, hnilD⟩⟩ rfl hn hsz hst (lv_room hW) hdg hf) hS (fun q _ h => hFc q h) hFc (fun r' u t H1 locs1 ht hvm hr' hB hz1 hk1 hS1 => ?_)
  obtain ⟨hr1, hr2⟩ := hr'
  subst hr1
  have hkept : va_P D vwCl w H1 := hP.kept (fun k q hk => hk1 q.1 (hP k q hk).lt (fun h => by
    rcases h with ⟨k2, e2, h2⟩ | h2
    · simp at h2
    · exact absurd (hP k q hk).lt (Nat.not_lt.mpr h2)))
  exact kk H1 locs1 hr2 hkept hD hS1
theorem xgv {a : Array Value} (hr : va_Run p l e R s m args below meth c H locs cells slots 0 0 (F0 m pc ls st0) rest (va_Qv (fun (_ : Unit) => True) (fun _ t => va_P D vwCl wc' t.heap ∧ va_K D vwCl tys t ∧ va_D (va_A wc H.size) wc') (va_A wc H.size) a) (va_A wc H.size)) (hP : va_P D vwCl w H) (hD : va_D A w) (hS : va_S A s.heap H locs) (hA : ∀ q, s.heap.size ≤ q → A q)
    (isC isR : List Nat) (hC : isC.map (fun i => w[i]?) = wc.map some) (hR : isR.map (fun i => w[i]?) = wr.map some) (hnR : va_nd isR = true) (hdis : ∀ i ∈ isR, i ∉ isC)
    (kk : ∀ (H : Heap) (locs : List Loc), va_P D vwCl (wr ++ wc') H → va_D A (wr ++ wc') → va_S A s.heap H locs → W p l e R s m args below meth c H locs cells slots Q (F0 m (pc + 3) ls rest)) : W p l e R s m args below meth c H locs cells slots Q (F0 m pc ls st0) := by
  have hFc := va_free (wc := wc) hD hS hA isC hC
  refine va_callv hr hS (fun q _ h => hFc q h) hFc (fun u t H1 locs1 ht hvm hr' hB hz1 hk1 hS1 => ?_)
  obtain ⟨hP1, hK1, hD1⟩ := hB
  rw [ht] at hP1
  obtain ⟨hP', hD'⟩ := va_join (wr := wr) (w1 := wc') hP hD isC isR hC hR hnR hdis hk1 hFc hP1 hD1
  exact kk H1 locs1 hP' hD' hS1
theorem xcv (hM : CtV l y ws rm D tys (.ref b :: As) wc wc') (S : CallFix p m c cc nL s args Ts own) (cw : CallW R s args own C index y bytes maxL ret ws rm 0 0 n) (hK : va_K D vwCl tys s) (hP : va_P D vwCl w H) (hD : va_D A w) (hS : va_S A s.heap H locs) (hA : ∀ q, s.heap.size ≤ q → A q)
    (isC isR : List Nat) (hC : isC.map (fun i => w[i]?) = wc.map some) (hR : isR.map (fun i => w[i]?) = wr.map some) (hnC : va_nd isC = true) (hnR : va_nd isR = true) (hdis : ∀ i ∈ isR, i ∉ isC)
    {ci : Nat} {q : vw_C} {fs : List Value} {q0 : Nat} (hcl : vwCl[ci]? = some q) (hq : q.1 = C) (he : w[q0]? = some (b, .inr (ci, fs)))
    (hn : As.length = n) (hsz : ls.size = nL) (hst : st0 = As.reverse ++ .ref b :: rest) (hW : (rest.map fun v => v.category).sum ≤ 8) (hdg : decode cc pc = .ok (.invokevirtual index, 3)) (hf : cells ≤ R.cells ∧ slots ≤ R.slots)
    (kk : ∀ (H : Heap) (locs : List Loc), va_P D vwCl (wr ++ wc') H → va_D A (wr ++ wc') → va_S A s.heap H locs → W p l e R s m args below meth c H locs cells slots Q (F0 m (pc + 3) ls rest)) : W p l e R s m args below meth c H locs cells slots Q (F0 m pc ls st0) := by
  have hrc := va_recv hK hP hcl he
  rw [hq] at hrc
  refine xgv (va_runV S (hM H.size) cw ⟨xfb, hrc, fun U hU hW => ⟨rfl, by rw [hU], by rw [hU]; exact xsubP hP isC hC, va_K.moved hW.alike hK, (hD.sub isC hnC hC).weaken (fun _ _ _ _ => trivial)⟩⟩ rfl hn hsz hst (lv_room hW) hdg hf) hP hD hS hA isC isR hC hR hnR hdis kk
theorem xcNv (hM : CtV l y ws rm D tys (.ref b :: As) wc wc') (S : CallFix p m c cc nL s args Ts own) (cw : va_CN R s args own index y host bytes maxL ret ws rm 0 0 n ∧ (Cond.instanceMethod y).before args s = true ∧ (Cond.selects C y y).before args s = true) (hK : va_K D vwCl tys s) (hP : va_P D vwCl w H) (hD : va_D A w) (hS : va_S A s.heap H locs) (hA : ∀ q, s.heap.size ≤ q → A q)
    (isC isR : List Nat) (hC : isC.map (fun i => w[i]?) = wc.map some) (hR : isR.map (fun i => w[i]?) = wr.map some) (hnC : va_nd isC = true) (hnR : va_nd isR = true) (hdis : ∀ i ∈ isR, i ∉ isC)
    {ci : Nat} {q : vw_C} {fs : List Value} {q0 : Nat} (hcl : vwCl[ci]? = some q) (hq : q.1 = C) (he : w[q0]? = some (b, .inr (ci, fs)))
    (hn : As.length = n) (hsz : ls.size = nL) (hst : st0 = As.reverse ++ .ref b :: rest) (hW : (rest.map fun v => v.category).sum ≤ 8) (hdg : decode cc pc = .ok (.invokevirtual index, 3)) (hf : cells ≤ R.cells ∧ slots ≤ R.slots)
    (kk : ∀ (H : Heap) (locs : List Loc), va_P D vwCl (wr ++ wc') H → va_D A (wr ++ wc') → va_S A s.heap H locs → W p l e R s m args below meth c H locs cells slots Q (F0 m (pc + 3) ls rest)) : W p l e R s m args below meth c H locs cells slots Q (F0 m pc ls st0) := by
  have hrc := va_recv hK hP hcl he
  rw [hq] at hrc
  refine xgv (va_runVN S (hM H.size) cw ⟨xfb, hrc, fun U hU hW => ⟨rfl, by rw [hU], by rw [hU]; exact xsubP hP isC hC, va_K.moved hW.alike hK, (hD.sub isC hnC hC).weaken (fun _ _ _ _ => trivial)⟩⟩ rfl hn hsz hst (lv_room hW) hdg hf) hP hD hS hA isC isR hC hR hnR hdis kk
theorem xgr {a : Array Value} {qr : Nat} (hr : va_Run p l e R s m args below meth c H locs cells slots 0 0 (F0 m pc ls st0) rest (va_Qr (fun (_ : Unit) => True) (fun _ a t => a = qr ∧ va_P D vwCl wc' t.heap ∧ va_K D vwCl tys t ∧ va_D (va_A wc H.size) wc') (va_A wc H.size) a) (va_A wc H.size)) (hP : va_P D vwCl w H) (hD : va_D A w) (hS : va_S A s.heap H locs) (hA : ∀ q, s.heap.size ≤ q → A q)
    (isC isR : List Nat) (hC : isC.map (fun i => w[i]?) = wc.map some) (hR : isR.map (fun i => w[i]?) = wr.map some) (hnR : va_nd isR = true) (hdis : ∀ i ∈ isR, i ∉ isC)
    (kk : ∀ (H : Heap) (locs : List Loc), va_P D vwCl (wr ++ wc') H → va_D A (wr ++ wc') → va_S A s.heap H locs → W p l e R s m args below meth c H locs cells slots Q (F0 m (pc + 3) ls (.ref qr :: rest))) : W p l e R s m args below meth c H locs cells slots Q (F0 m pc ls st0) := by
  have hFc := va_free (wc := wc) hD hS hA isC hC
  refine va_callr hr hS (fun q _ h => hFc q h) hFc (fun u ra t H1 locs1 ht hvm hr' hB hz1 hk1 hS1 => ?_)
  obtain ⟨hra, hB⟩ := hB
  subst hra
  obtain ⟨hP1, hK1, hD1⟩ := hB
  rw [ht] at hP1
  obtain ⟨hP', hD'⟩ := va_join (wr := wr) (w1 := wc') hP hD isC isR hC hR hnR hdis hk1 hFc hP1 hD1
  exact kk H1 locs1 hP' hD' hS1
theorem xcr {qr : Nat} (hM : CtR l y ws rm D tys (.ref b :: As) wc wc' qr) (S : CallFix p m c cc nL s args Ts own) (cw : CallW R s args own C index y bytes maxL ret ws rm 0 0 n) (hK : va_K D vwCl tys s) (hP : va_P D vwCl w H) (hD : va_D A w) (hS : va_S A s.heap H locs) (hA : ∀ q, s.heap.size ≤ q → A q)
    (isC isR : List Nat) (hC : isC.map (fun i => w[i]?) = wc.map some) (hR : isR.map (fun i => w[i]?) = wr.map some) (hnC : va_nd isC = true) (hnR : va_nd isR = true) (hdis : ∀ i ∈ isR, i ∉ isC)
    {ci : Nat} {q : vw_C} {fs : List Value} {q0 : Nat} (hcl : vwCl[ci]? = some q) (hq : q.1 = C) (he : w[q0]? = some (b, .inr (ci, fs)))
    (hn : As.length = n) (hsz : ls.size = nL) (hst : st0 = As.reverse ++ .ref b :: rest) (hW : (rest.map fun v => v.category).sum ≤ 8) (hdg : decode cc pc = .ok (.invokevirtual index, 3)) (hf : cells ≤ R.cells ∧ slots ≤ R.slots)
    (kk : ∀ (H : Heap) (locs : List Loc), va_P D vwCl (wr ++ wc') H → va_D A (wr ++ wc') → va_S A s.heap H locs → W p l e R s m args below meth c H locs cells slots Q (F0 m (pc + 3) ls (.ref qr :: rest))) : W p l e R s m args below meth c H locs cells slots Q (F0 m pc ls st0) := by
  have hrc := va_recv hK hP hcl he
  rw [hq] at hrc
  refine xgr (va_runV S (hM H.size) cw ⟨xfb, hrc, fun U hU hW => ⟨rfl, by rw [hU], by rw [hU]; exact xsubP hP isC hC, va_K.moved hW.alike hK, (hD.sub isC hnC hC).weaken (fun _ _ _ _ => trivial)⟩⟩ rfl hn hsz hst (lv_room hW) hdg hf) hP hD hS hA isC isR hC hR hnR hdis kk
theorem xcNr {qr : Nat} (hM : CtR l y ws rm D tys (.ref b :: As) wc wc' qr) (S : CallFix p m c cc nL s args Ts own) (cw : va_CN R s args own index y host bytes maxL ret ws rm 0 0 n ∧ (Cond.instanceMethod y).before args s = true ∧ (Cond.selects C y y).before args s = true) (hK : va_K D vwCl tys s) (hP : va_P D vwCl w H) (hD : va_D A w) (hS : va_S A s.heap H locs) (hA : ∀ q, s.heap.size ≤ q → A q)
    (isC isR : List Nat) (hC : isC.map (fun i => w[i]?) = wc.map some) (hR : isR.map (fun i => w[i]?) = wr.map some) (hnC : va_nd isC = true) (hnR : va_nd isR = true) (hdis : ∀ i ∈ isR, i ∉ isC)
    {ci : Nat} {q : vw_C} {fs : List Value} {q0 : Nat} (hcl : vwCl[ci]? = some q) (hq : q.1 = C) (he : w[q0]? = some (b, .inr (ci, fs)))
    (hn : As.length = n) (hsz : ls.size = nL) (hst : st0 = As.reverse ++ .ref b :: rest) (hW : (rest.map fun v => v.category).sum ≤ 8) (hdg : decode cc pc = .ok (.invokevirtual index, 3)) (hf : cells ≤ R.cells ∧ slots ≤ R.slots)
    (kk : ∀ (H : Heap) (locs : List Loc), va_P D vwCl (wr ++ wc') H → va_D A (wr ++ wc') → va_S A s.heap H locs → W p l e R s m args below meth c H locs cells slots Q (F0 m (pc + 3) ls (.ref qr :: rest))) : W p l e R s m args below meth c H locs cells slots Q (F0 m pc ls st0) := by
  have hrc := va_recv hK hP hcl he
  rw [hq] at hrc
  refine xgr (va_runVN S (hM H.size) cw ⟨xfb, hrc, fun U hU hW => ⟨rfl, by rw [hU], by rw [hU]; exact xsubP hP isC hC, va_K.moved hW.alike hK, (hD.sub isC hnC hC).weaken (fun _ _ _ _ => trivial)⟩⟩ rfl hn hsz hst (lv_room hW) hdg hf) hP hD hS hA isC isR hC hR hnR hdis kk
theorem xnv {S : Type} {wn : S → va_W} {mc ms : Nat} (hM : CtN l y ws rm D tys (.ref b :: As) wc wn mc ms) (S0 : CallFix p m c cc nL s args Ts own) (cw : CallB R s args own index y bytes maxL none ws rm mc ms n ∧ y.name = "<init>" ∧ (Cond.instanceMethod y).before args s = true) (hK : va_K D vwCl tys s) (hP : va_P D vwCl w H) (hD : va_D A w) (hS : va_S A s.heap H locs) (hA : ∀ q, s.heap.size ≤ q → A q)
    (isC isR : List Nat) (hC : isC.map (fun i => w[i]?) = wc.map some) (hR : isR.map (fun i => w[i]?) = wr.map some) (hnC : va_nd isC = true) (hnR : va_nd isR = true) (hdis : ∀ i ∈ isR, i ∉ isC)
    (hn : As.length = n) (hsz : ls.size = nL) (hst : st0 = As.reverse ++ .ref b :: rest) (hW : (rest.map fun v => v.category).sum ≤ 8) (hdg : decode cc pc = .ok (.invokespecial index, 3)) (hf : cells + mc ≤ R.cells ∧ slots + ms ≤ R.slots)
    (kk : ∀ (u : S) (H : Heap) (locs : List Loc), va_P D vwCl (wr ++ wn u) H → va_D A (wr ++ wn u) → va_S A s.heap H locs → W p l e R s m args below meth c H locs (cells + mc) (slots + ms) Q (F0 m (pc + 3) ls rest)) : W p l e R s m args below meth c H locs cells slots Q (F0 m pc ls st0) := by
  have hFc := va_free (wc := wc) hD hS hA isC hC
  refine va_callv (va_runI S0 (hM H.size) cw ⟨xfb, fun U hU hW => ⟨rfl, by rw [hU], by rw [hU]; exact xsubP hP isC hC, va_K.moved hW.alike hK, (hD.sub isC hnC hC).weaken (fun _ _ _ _ => trivial)⟩⟩ rfl hn hsz hst (lv_room hW) hdg hf) hS (fun q _ h => hFc q h) hFc (fun u t H1 locs1 ht hvm hr' hB hz1 hk1 hS1 => ?_)
  obtain ⟨hP1, hK1, hD1⟩ := hB
  rw [ht] at hP1
  obtain ⟨hP', hD'⟩ := va_join (wr := wr) (w1 := wn u) hP hD isC isR hC hR hnR hdis hk1 hFc hP1 hD1
  exact kk u H1 locs1 hP' hD' hS1
theorem xnewa {cI : ClassId} (hexec : p.tables.exec = Jvm.exec) (hb : c.code = cc) (harr : (Cond.arrayClass .int).before args s = true) (hK : va_K D vwCl [(cI, .int)] s) (hP : va_P D vwCl w H) (hD : va_D A w) (hS : va_S A s.heap H locs) (hA : ∀ q, s.heap.size ≤ q → A q)
    {k : Int32} {N : Nat} (hk : ¬ k < 0) (hN : k.toNatClampNeg = N) (hbytes : N * componentBytes .int ≤ 536870912) (hcells : cells + 1 ≤ R.cells) (hslots : slots + N ≤ R.slots) (hdg : decode cc pc = .ok (.newarray .int, 2))
    (kk : ∀ (q : Nat) (H : Heap), va_P D vwCl (w ++ [(q, .inl (cI, N, .inl (fun _ => 0)))]) H → va_D A (w ++ [(q, .inl (cI, N, .inl (fun _ => 0)))]) → va_S A s.heap H locs → W p l e R s m args below meth c H locs (cells + 1) (slots + N) Q (F0 m (pc + 2) ls (.ref q :: rest))) : W p l e R s m args below meth c H locs cells slots Q (F0 m pc ls (.int k :: rest)) := by
  refine va_newa (atype := .int) (a0 := (N, .inl (fun _ => 0))) hexec hb harr rfl hK hP hD hS hA (fun _ => rfl) hk hN hbytes hcells hslots hdg (fun q cA H1 hK1 hP1 hD1 hS1 => ?_)
  have e1 : s.vm.findClass ("[" ++ FieldType.int.toString) = some cI := (hK1.2 0 (cI, .int) rfl).2
  have e2 : s.vm.findClass ("[" ++ FieldType.int.toString) = some cA := (hK1.2 1 (cA, .int) rfl).2
  have e3 : cI = cA := Option.some.inj (e1.symm.trans e2)
  subst e3
  exact kk q H1 hP1 hD1 hS1

end XCALL
end
section
-- the constants of AppletFirewall$Instruction by their places, and what their fields hold
abbrev E_n : String := "AppletFirewall$Instruction"
abbrev E_d : String := "LAppletFirewall$Instruction;"
abbrev S_n : String := "$SwitchMap$AppletFirewall$Instruction"
def tbC (k : Nat) : Int32 := ([164, 32, 36, 44, 176, 214, 112, 114, 226, 228, 178, 220, -1] : List Int32).getD k 0
def tbS (k : Nat) : Int32 := ([3, 3, 3, 1, 2, 3, 1, 1, 3, 1, 2, 3, 0] : List Int32).getD k 0
def tbL (k : Nat) : Int32 := ([1, 2, 2, 0, 0, 0, 0, 0, 4, 0, 0, 0, 0] : List Int32).getD k 0
def tbP (k : Nat) : Int32 := ([0, 0, 0, 3, 0, 0, 0, 1, 7, 7, 7, 7, 0] : List Int32).getD k 0
def tbQ (k : Nat) : Int32 := ([0, 0, 0, 0, 255, 255, 0, 0, 0, 0, 255, 255, 0] : List Int32).getD k 0
def tbG (k : Nat) : Int32 := ([0, 0, 1, 1, 1, 1, 0, 0, 1, 1, 1, 1, 1] : List Int32).getD k 0
def smT (k : Nat) : Int32 := ([1, 2, 3, 4, 5, 6, 7, 8, 9, 10, 11, 12, 0] : List Int32).getD k 0
theorem tbG_z : ∀ k, k < 13 → narrow .boolean (.int (tbG k)) = .int (tbG k) := by decide +kernel
theorem vlt {i : Int32} {n : Nat} (h : vp_in i n) : i.toNatClampNeg < n := Nat.not_le.mp fun q => h (Or.inr q)
def Est (ad : Nat → Nat) (tA tS : Nat) (A : Nat → Prop) (U : State) (H : Heap) : Prop :=
  va_Z E_n "ALL" "[LAppletFirewall$Instruction;" (.ref tA) A U H ∧ va_T (.object E_n) tA 13 (fun j => .ref (ad j)) A U H ∧ va_Z E_n "UNKNOWN" E_d (.ref (ad 12)) A U H ∧ va_Z E_n "SELECT" E_d (.ref (ad 0)) A U H ∧
  va_Z "AppletFirewall$1" S_n "[I" (.ref tS) A U H ∧ va_T .int tS 13 (fun j => .int (smT j)) A U H ∧ (∀ i, i < 13 → va_O E_n (ad i) A U H) ∧
  va_Ef 13 E_n "code" "I" (fun i => .int (tbC i)) ad A U H ∧ va_Ef 13 E_n "shape" "I" (fun i => .int (tbS i)) ad A U H ∧ va_Ef 13 E_n "lc" "I" (fun i => .int (tbL i)) ad A U H ∧ va_Ef 13 E_n "highestP1" "I" (fun i => .int (tbP i)) ad A U H ∧ va_Ef 13 E_n "highestP2" "I" (fun i => .int (tbQ i)) ad A U H ∧ va_Ef 13 E_n "guarded" "Z" (fun i => .int (tbG i)) ad A U H ∧
  va_Ef 13 "java/lang/Enum" "ordinal" "I" (fun i => .int (nI i)) ad A U H ∧ (∀ i j, i < 13 → j < 13 → ad i = ad j → i = j)
section ESTP
variable {ad : Nat → Nat} {tA tS : Nat} {A B : Nat → Prop} {u U : State} {H H1 : Heap}
theorem Est.moved (hvm : u.vm.Alike U.vm) (h : Est ad tA tS A u H) : Est ad tA tS A U H := by
  obtain ⟨h1, h2, h3, h4, h5, h6, h7, h8, h9, h10, h11, h12, h13, h14, h15⟩ := h
  exact ⟨h1.moved hvm, h2.moved hvm, h3.moved hvm, h4.moved hvm, h5.moved hvm, h6.moved hvm, fun i hi => (h7 i hi).moved hvm, h8.moved hvm, h9.moved hvm, h10.moved hvm, h11.moved hvm, h12.moved hvm, h13.moved hvm, h14.moved hvm, h15⟩
theorem Est.kept (h : Est ad tA tS A U H) (hq : ∀ a : Nat, a < H.size → ¬ A a → H1[a]? = H[a]?) : Est ad tA tS A U H1 := by
  obtain ⟨h1, h2, h3, h4, h5, h6, h7, h8, h9, h10, h11, h12, h13, h14, h15⟩ := h
  exact ⟨h1.kept hq, h2.kept hq, h3.kept hq, h4.kept hq, h5.kept hq, h6.kept hq, fun i hi => (h7 i hi).kept hq, h8.kept hq, h9.kept hq, h10.kept hq, h11.kept hq, h12.kept hq, h13.kept hq, h14.kept hq, h15⟩
theorem Est.narrow (h : Est ad tA tS A U H) (hAB : ∀ q, B q → A q) : Est ad tA tS B U H := by
  obtain ⟨h1, h2, h3, h4, h5, h6, h7, h8, h9, h10, h11, h12, h13, h14, h15⟩ := h
  exact ⟨h1.narrow hAB, h2.narrow hAB, h3.narrow hAB, h4.narrow hAB, h5.narrow hAB, h6.narrow hAB, fun i hi => (h7 i hi).narrow hAB, h8.narrow hAB, h9.narrow hAB, h10.narrow hAB, h11.narrow hAB, h12.narrow hAB, h13.narrow hAB, h14.narrow hAB, h15⟩
end ESTP
theorem gU {c0 c1 : Cond} {own C owner : String} {idx : Nat} {x y : MethodName} (h1 : Cond.methodLink own idx x ∈ lw_g) (h2 : Cond.sameMethod x.cls owner x.name x.desc ∈ lw_g) (h3 : Cond.selects C x y ∈ lw_g) (h4 : Cond.instanceMethod y ∈ lw_g) (h5 : Cond.initialized y.cls ∈ lw_g) (h6 : c1 ∈ lw_g) : GoodIn (c0 :: lw_g) (va_wsU own idx C owner x y (c1 :: lw_g)) := goodIn_t (fun w hw => by
  unfold va_wsU at hw
  simp only [List.cons_append, List.nil_append, List.mem_cons] at hw
  rcases hw with h | h | h | h | h | h | h
  · rw [h]; exact h1
  · rw [h]; exact h2
  · rw [h]; exact h3
  · rw [h]; exact h4
  · rw [h]; exact h5
  · rw [h]; exact h6
  · exact h)
-- contracts that need the constants: no world (the enum's own), or a world beside them
def CeI (l : Launch) (y : MethodName) (ws : List Cond) (rm : Room) (D : va_G) (tys : List (ClassId × FieldType)) (ad : Nat → Nat) (tA tS : Nat) (av : List Value) (r : Int32) : Prop := ∀ sz : Nat, Met l y ws rm (va_Pc av (fun U => U.heap.size = sz ∧ va_K D vwCl tys U ∧ Est ad tA tS (va_A [] sz) U U.heap)) (va_Qi (fun (r' : Int32) (_ : Unit) => r' = r) (fun _ _ => True) (va_A [] sz)) 0 0 (va_A [] sz)
def CeR (l : Launch) (y : MethodName) (ws : List Cond) (rm : Room) (D : va_G) (tys : List (ClassId × FieldType)) (ad : Nat → Nat) (tA tS : Nat) (av : List Value) (q : Nat) : Prop := ∀ sz : Nat, Met l y ws rm (va_Pc av (fun U => U.heap.size = sz ∧ va_K D vwCl tys U ∧ Est ad tA tS (va_A [] sz) U U.heap)) (va_Qr (fun (_ : Unit) => True) (fun _ a _ => a = q) (va_A [] sz)) 0 0 (va_A [] sz)
def CfI (l : Launch) (y : MethodName) (ws : List Cond) (rm : Room) (D : va_G) (tys : List (ClassId × FieldType)) (ad : Nat → Nat) (tA tS : Nat) (av : List Value) (w w' : va_W) (r : Int32) : Prop := ∀ sz : Nat, Met l y ws rm (va_Pc av (fun U => U.heap.size = sz ∧ va_P D vwCl w U.heap ∧ va_K D vwCl tys U ∧ va_D (fun _ => True) w ∧ Est ad tA tS (va_A w sz) U U.heap)) (va_Qi (fun (r' : Int32) (_ : Unit) => r' = r) (fun _ t => va_P D vwCl w' t.heap ∧ va_K D vwCl tys t ∧ va_D (va_A w sz) w') (va_A w sz)) 0 0 (va_A w sz)
section XENUM
variable {p : Program} {l : Launch} {e : Env} {R : Room} {s : State} {m : MethodId} {args : Array Value} {below : List Frame} {meth : Method} {c : Code} {H : Heap} {locs : List Loc} {cells slots : Nat} {Q : State → Prop}
variable {y y0 : MethodName} {bytes cc : ByteArray} {maxL nL n index pc : Nat} {ret : Option FieldType} {ws : List Cond} {rm : Room} {Ts : List Cond} {own C owner : String} {b : Addr} {As rest st0 : List Value} {ls : Array Slot} {D : va_G} {tys : List (ClassId × FieldType)} {A : Nat → Prop} {w wc wc' wr : va_W} {r : Int32} {ad : Nat → Nat} {tA tS k : Nat}
theorem xefb {av : List Value} {sz : Nat} : FrameBlind (va_Pc av (fun U => U.heap.size = sz ∧ va_K D vwCl tys U ∧ Est ad tA tS (va_A [] sz) U U.heap)) := fun a U g mk q => by
  obtain ⟨q0, q1, qK, qE⟩ := q
  exact ⟨q0, q1, va_K.moved (u := U) (U := U.calling g mk a) (Vm.Alike.refl U.vm) qK, Est.moved (u := U) (U := U.calling g mk a) (Vm.Alike.refl U.vm) qE⟩
theorem xffb {av : List Value} {sz : Nat} : FrameBlind (va_Pc av (fun U => U.heap.size = sz ∧ va_P D vwCl wc U.heap ∧ va_K D vwCl tys U ∧ va_D (fun _ => True) wc ∧ Est ad tA tS (va_A wc sz) U U.heap)) := fun a U g mk q => by
  obtain ⟨q0, q1, qP, qK, qD, qE⟩ := q
  exact ⟨q0, q1, qP, va_K.moved (u := U) (U := U.calling g mk a) (Vm.Alike.refl U.vm) qK, qD, Est.moved (u := U) (U := U.calling g mk a) (Vm.Alike.refl U.vm) qE⟩
theorem xnil (hS : va_S A s.heap H locs) (hA : ∀ q, s.heap.size ≤ q → A q) : ∀ q, va_A [] H.size q → A q := fun q h => by
  rcases h with ⟨k, e, h⟩ | h
  · simp at h
  · exact hA q (Nat.le_trans hS.1 h)
theorem xkeep {H1 : Heap} (hP : va_P D vwCl w H) (hk1 : ∀ q : Nat, q < H.size → ¬ va_A [] H.size q → H1[q]? = H[q]?) : va_P D vwCl w H1 := hP.kept (fun k q hk => hk1 q.1 (hP k q hk).lt (fun h => by
  rcases h with ⟨k2, e2, h2⟩ | h2
  · simp at h2
  · exact absurd (hP k q hk).lt (Nat.not_lt.mpr h2)))
theorem xepre (hE : Est ad tA tS A s s.heap) (hK : va_K D vwCl tys s) (hS : va_S A s.heap H locs) (hA : ∀ q, s.heap.size ≤ q → A q) {av : List Value} : ∀ U : State, U.heap = H → s.WarmedH U.vm → va_Pc av (fun U => U.heap.size = H.size ∧ va_K D vwCl tys U ∧ Est ad tA tS (va_A [] H.size) U U.heap) av.toArray U := fun U hU hW =>
  ⟨rfl, by rw [hU], va_K.moved hW.alike hK, by rw [hU]; exact ((hE.kept hS.2.1).narrow (xnil hS hA)).moved hW.alike⟩
theorem xrcv (hE : Est ad tA tS A s s.heap) (hk : k < 13) (hS : va_S A s.heap H locs) : ∃ cell : Cell, H[ad k]? = some cell ∧ cell.vm.isStatics = false ∧ s.vm.findClass E_n = some cell.cls := by
  obtain ⟨cell, h1, h2, h3, h4⟩ := (hE.2.2.2.2.2.2.1 k hk)
  have hl : ad k < s.heap.size := (Array.getElem?_eq_some_iff.mp h1).1
  exact ⟨cell, by rw [hS.2.1 _ hl h4]; exact h1, h2, h3⟩
theorem xei {args' : Array Value} (hr : va_Run p l e R s m args below meth c H locs cells slots 0 0 (F0 m pc ls st0) rest (va_Qi (fun (r' : Int32) (_ : Unit) => r' = r) (fun _ _ => True) (va_A [] H.size) args') (va_A [] H.size)) (hP : va_P D vwCl w H) (hD : va_D A w) (hS : va_S A s.heap H locs) (hA : ∀ q, s.heap.size ≤ q → A q)
    (kk : ∀ (H : Heap) (locs : List Loc), va_P D vwCl w H → va_D A w → va_S A s.heap H locs → W p l e R s m args below meth c H locs cells slots Q (F0 m (pc + 3) ls (.int r :: rest))) : W p l e R s m args below meth c H locs cells slots Q (F0 m pc ls st0) := by
  have hFc := xnil hS hA
  refine va_calli hr hS (fun q _ h => hFc q h) hFc (fun r' u t H1 locs1 ht hvm hr' hB hz1 hk1 hS1 => ?_)
  subst hr'
  exact kk H1 locs1 (xkeep hP hk1) hD hS1
/-- a method of the enum on one of its constants -/
theorem xeV (hM : CeI l y ws rm D tys ad tA tS (.ref (ad k) :: As) r) (S : CallFix p m c cc nL s args Ts own) (cw : CallW R s args own E_n index y bytes maxL ret ws rm 0 0 n) (hE : Est ad tA tS A s s.heap) (hk : k < 13) (hK : va_K D vwCl tys s) (hP : va_P D vwCl w H) (hD : va_D A w) (hS : va_S A s.heap H locs) (hA : ∀ q, s.heap.size ≤ q → A q)
    (hn : As.length = n) (hsz : ls.size = nL) (hst : st0 = As.reverse ++ .ref (ad k) :: rest) (hW : (rest.map fun v => v.category).sum ≤ 8) (hdg : decode cc pc = .ok (.invokevirtual index, 3)) (hf : cells ≤ R.cells ∧ slots ≤ R.slots)
    (kk : ∀ (H : Heap) (locs : List Loc), va_P D vwCl w H → va_D A w → va_S A s.heap H locs → W p l e R s m args below meth c H locs cells slots Q (F0 m (pc + 3) ls (.int r :: rest))) : W p l e R s m args below meth c H locs cells slots Q (F0 m pc ls st0) :=
  xei (va_runV S (hM H.size) cw ⟨xefb, xrcv hE hk hS, xepre hE hK hS hA⟩ rfl hn hsz hst (lv_room hW) hdg hf) hP hD hS hA kk
theorem xeU (hM : CeI l y ws rm D tys ad tA tS (.ref (ad k) :: As) r) (S : CallFix p m c cc nL s args Ts own) (cw : va_CU R s args own E_n owner index y0 y bytes maxL ret ws rm 0 0 n) (hE : Est ad tA tS A s s.heap) (hk : k < 13) (hK : va_K D vwCl tys s) (hP : va_P D vwCl w H) (hD : va_D A w) (hS : va_S A s.heap H locs) (hA : ∀ q, s.heap.size ≤ q → A q)
    (hn : As.length = n) (hsz : ls.size = nL) (hst : st0 = As.reverse ++ .ref (ad k) :: rest) (hW : (rest.map fun v => v.category).sum ≤ 8) (hdg : decode cc pc = .ok (.invokevirtual index, 3)) (hf : cells ≤ R.cells ∧ slots ≤ R.slots)
    (kk : ∀ (H : Heap) (locs : List Loc), va_P D vwCl w H → va_D A w → va_S A s.heap H locs → W p l e R s m args below meth c H locs cells slots Q (F0 m (pc + 3) ls (.int r :: rest))) : W p l e R s m args below meth c H locs cells slots Q (F0 m pc ls st0) :=
  xei (va_runU S (hM H.size) cw ⟨xefb, xrcv hE hk hS, xepre hE hK hS hA⟩ rfl hn hsz hst (lv_room hW) hdg hf) hP hD hS hA kk
/-- a static method of the enum that answers a constant -/
theorem xeS {q : Nat} (hM : CeR l y ws rm D tys ad tA tS As q) (S : CallFix p m c cc nL s args Ts own) (cw : CallB R s args own index y bytes maxL ret ws rm 0 0 n ∧ (Cond.static y).before args s = true) (hE : Est ad tA tS A s s.heap) (hK : va_K D vwCl tys s) (hP : va_P D vwCl w H) (hD : va_D A w) (hS : va_S A s.heap H locs) (hA : ∀ q, s.heap.size ≤ q → A q)
    (hn : As.length = n) (hsz : ls.size = nL) (hst : st0 = As.reverse ++ rest) (hW : (rest.map fun v => v.category).sum ≤ 8) (hdg : decode cc pc = .ok (.invokestatic index, 3)) (hf : cells ≤ R.cells ∧ slots ≤ R.slots)
    (kk : ∀ (H : Heap) (locs : List Loc), va_P D vwCl w H → va_D A w → va_S A s.heap H locs → W p l e R s m args below meth c H locs cells slots Q (F0 m (pc + 3) ls (.ref q :: rest))) : W p l e R s m args below meth c H locs cells slots Q (F0 m pc ls st0) := by
  have hFc := xnil hS hA
  refine va_callr (va_runS S (hM H.size) cw ⟨xefb, xepre hE hK hS hA⟩ rfl hn hsz hst (lv_room hW) hdg hf) hS (fun q _ h => hFc q h) hFc (fun u ra t H1 locs1 ht hvm hr' hB hz1 hk1 hS1 => ?_)
  subst hB
  exact kk H1 locs1 (xkeep hP hk1) hD hS1
/-- a method with a world that needs the constants too -/
theorem xf (hM : CfI l y ws rm D tys ad tA tS (.ref b :: As) wc wc' r) (S : CallFix p m c cc nL s args Ts own) (cw : CallW R s args own C index y bytes maxL ret ws rm 0 0 n) (hE : Est ad tA tS A s s.heap) (hK : va_K D vwCl tys s) (hP : va_P D vwCl w H) (hD : va_D A w) (hS : va_S A s.heap H locs) (hA : ∀ q, s.heap.size ≤ q → A q)
    (isC isR : List Nat) (hC : isC.map (fun i => w[i]?) = wc.map some) (hR : isR.map (fun i => w[i]?) = wr.map some) (hnC : va_nd isC = true) (hnR : va_nd isR = true) (hdis : ∀ i ∈ isR, i ∉ isC)
    {ci : Nat} {q : vw_C} {fs : List Value} {q0 : Nat} (hcl : vwCl[ci]? = some q) (hq : q.1 = C) (he : w[q0]? = some (b, .inr (ci, fs)))
    (hn : As.length = n) (hsz : ls.size = nL) (hst : st0 = As.reverse ++ .ref b :: rest) (hW : (rest.map fun v => v.category).sum ≤ 8) (hdg : decode cc pc = .ok (.invokevirtual index, 3)) (hf : cells ≤ R.cells ∧ slots ≤ R.slots)
    (kk : ∀ (H : Heap) (locs : List Loc), va_P D vwCl (wr ++ wc') H → va_D A (wr ++ wc') → va_S A s.heap H locs → W p l e R s m args below meth c H locs cells slots Q (F0 m (pc + 3) ls (.int r :: rest))) : W p l e R s m args below meth c H locs cells slots Q (F0 m pc ls st0) := by
  have hrc := va_recv hK hP hcl he
  rw [hq] at hrc
  have hFc := va_free (wc := wc) hD hS hA isC hC
  exact xgi (va_runV S (hM H.size) cw ⟨xffb, hrc, fun U hU hW => ⟨rfl, by rw [hU], by rw [hU]; exact xsubP hP isC hC, va_K.moved hW.alike hK, (hD.sub isC hnC hC).weaken (fun _ _ _ _ => trivial), by rw [hU]; exact ((hE.kept hS.2.1).narrow hFc).moved hW.alike⟩⟩ rfl hn hsz hst (lv_room hW) hdg hf) hP hD hS hA isC isR hC hR hnR hdis kk
end XENUM
end
section
theorem d_M_init_0 : decode b_M_init 0 = .ok (.aload_n 0, 1) := by decide +kernel
theorem d_M_init_1 : decode b_M_init 1 = .ok (.invokespecial 5, 3) := by decide +kernel
theorem d_M_init_4 : decode b_M_init 4 = .ok (.aload_n 0, 1) := by decide +kernel
theorem d_M_init_5 : decode b_M_init 5 = .ok (.sipush 149, 3) := by decide +kernel
theorem d_M_init_8 : decode b_M_init 8 = .ok (.newarray .int, 2) := by decide +kernel
theorem d_M_init_10 : decode b_M_init 10 = .ok (.putfield 11, 3) := by decide +kernel
theorem d_M_init_13 : decode b_M_init 13 = .ok (.iconst 0, 1) := by decide +kernel
theorem d_M_init_14 : decode b_M_init 14 = .ok (.istore_n 1, 1) := by decide +kernel
theorem d_M_init_15 : decode b_M_init 15 = .ok (.iload_n 1, 1) := by decide +kernel
theorem d_M_init_16 : decode b_M_init 16 = .ok (.iconst 4, 1) := by decide +kernel
theorem d_M_init_17 : decode b_M_init 17 = .ok (.if_icmp .ge 19, 3) := by decide +kernel
theorem d_M_init_20 : decode b_M_init 20 = .ok (.aload_n 0, 1) := by decide +kernel
theorem d_M_init_21 : decode b_M_init 21 = .ok (.getfield 11, 3) := by decide +kernel
theorem d_M_init_24 : decode b_M_init 24 = .ok (.bipush 72, 2) := by decide +kernel
theorem d_M_init_26 : decode b_M_init 26 = .ok (.iload_n 1, 1) := by decide +kernel
theorem d_M_init_27 : decode b_M_init 27 = .ok (.iadd, 1) := by decide +kernel
theorem d_M_init_28 : decode b_M_init 28 = .ok (.iconst 3, 1) := by decide +kernel
theorem d_M_init_29 : decode b_M_init 29 = .ok (.iastore, 1) := by decide +kernel
theorem d_M_init_30 : decode b_M_init 30 = .ok (.iinc 1 1, 3) := by decide +kernel
theorem d_M_init_33 : decode b_M_init 33 = .ok (.goto (-18), 3) := by decide +kernel
theorem d_M_init_36 : decode b_M_init 36 = .ok (.aload_n 0, 1) := by decide +kernel
theorem d_M_init_37 : decode b_M_init 37 = .ok (.iconst (-1), 1) := by decide +kernel
theorem d_M_init_38 : decode b_M_init 38 = .ok (.putfield 15, 3) := by decide +kernel
theorem d_M_init_41 : decode b_M_init 41 = .ok (.return_, 1) := by decide +kernel
def fM_init_L15 : Nat → StM → Int32 → Option (StM)
  | 0, _, _ => none
  | n + 1, (mc, mw, mf, mz), v1 => if 4 ≤ v1 then (some (mc, mw, mf, (-1))) else (ix (72 + v1) 149 fun j2 => fM_init_L15 n (upd mc j2 3, mw, mf, mz) (v1 + 1))
def fM_init : Option (StM) := fM_init_L15 300 (fun _ => 0, 0, 0, 0) 0
set_option maxHeartbeats 4000000 in
set_option maxRecDepth 100000 in
theorem ctM_init (l : Launch) (dC : Nat → ClassId) (dI : Nat → Nat → Nat) (cI : ClassId) (hm : Nat) (mc' : Nat → Int32) (mw' : Int32) (mf' : Int32) (mz' : Int32) (hf : fM_init = some (mc', mw', mf', mz')) : CtN l y_M_init w_M_init ({ frames := 1, cells := 1, slots := 149, locals := 12 }) (dC, dI) [(cI, .int)] [.ref hm] [(hm, .inr (1, [.null, .int 0, .int 0, .int 0]))] (fun u : Nat => [(hm, .inr (1, [.ref (u), .int mw', .int mf', .int mz'])), ((u), .inl (cI, 149, .inl mc'))]) 1 149 := by
  intro sz
  refine Met.ofW (cc := b_M_init) (maxL := 2) (ret := none) (by decide) rfl ?_
  intro p e s m args below meth c s₁ B hml hv
  obtain ⟨rfl, hsz, hP, hK, hD0⟩ := hv
  have hx := B.exec
  have hb := B.bytes
  have hr := B.returns
  have hts := atoms_spec (ws := w_M_init) B.pre
  have hown : s.vm.findClass R_M = some m.cls := findClass_of_methodNamed B.named
  have hlocks := B.notSynchronized
  have hin : meth.name = "<init>" := (name_of_methodNamed B.named B.method).1
  subst hsz
  have hD := hD0.self (sz := s.heap.size)
  generalize hAe : va_A [(hm, .inr (1, [.null, .int 0, .int 0, .int 0]))] s.heap.size = A at hD ⊢
  have hA : ∀ q : Nat, s.heap.size ≤ q → A q := fun q h => by rw [← hAe]; exact Or.inr h
  have hS : va_S A s.heap s.heap [] := va_S.rf
  have hP : va_P (dC, dI) vwCl [(hm, .inr (1, [.null, .int 0, .int 0, .int 0]))] s.heap := hP
  have hl := lv_entry ([.ref hm]) (n := 2) (Nat.le_of_ble_eq_true rfl)
  rw [lg_entry_eq]
  generalize (lg_sl ([.ref hm]) ++ List.replicate (2 - (lg_sl ([.ref hm])).length) Slot.unset).toArray = ls at hl ⊢
  have hl : lv_has ls 2 [(0, .ref hm)] := hl
  have inM : ∀ w ∈ u_ws R_M F_M 4, w ∈ w_M_init := fun w h => List.mem_cons_of_mem _ (in_M w h)
  have ka0 := hts _ (List.mem_cons_of_mem _ wq77)
  have kf11 := hts _ (List.mem_cons_of_mem _ wq64)
  have kf15 := hts _ (List.mem_cons_of_mem _ wq67)
  have km5 := hts _ (List.mem_cons_of_mem _ wq63)
  have ko0 := hts _ (List.mem_cons_of_mem _ wq56)
  have ko1 := hts _ (List.mem_cons_of_mem _ wq57)
  rw [fM_init] at hf
  refine lv_aload_n hx hb d_M_init_0 rfl (lv_at hl 0 rfl) ?_
  refine W.objInit hx hb hown km5 ko0 ko1 rfl (by rw [hml]; exact hl.1) rfl d_M_init_1 (Nat.le_of_ble_eq_true rfl) (Nat.le_of_ble_eq_true rfl) ?_
  refine W.eq (g2 := F0 m 4 ls []) rfl ?_
  refine lv_aload_n hx hb d_M_init_4 rfl (lv_at hl 0 rfl) ?_
  refine lv_sipush (v := 149) hx hb d_M_init_5 (by decide) ?_
  refine xnewa (N := 149) hx hb ka0 hK hP hD hS hA (by decide) (by decide) (by decide) (Nat.le_of_ble_eq_true rfl) (Nat.le_of_ble_eq_true rfl) d_M_init_8 (fun qc H hP hD hS => ?_)
  have hP : va_P (dC, dI) vwCl [(hm, .inr (1, [.null, .int 0, .int 0, .int 0])), (qc, .inl (cI, 149, .inl (fun _ => 0)))] H := hP
  have hD : va_D A [(hm, .inr (1, [.null, .int 0, .int 0, .int 0])), (qc, .inl (cI, 149, .inl (fun _ => 0)))] := hD
  refine va_putF (D := (dC, dI)) (ci := 1) (v := .ref qc) (ty := .array .int) (C := R_M) (T := F_M) (N := 4) hx hb hts inM t_M t_M_ok n_M hown hK hP hD hS 0 rfl rfl 0 (by decide) kf11 (fun _ h9 => h9) rfl hin rfl (by decide +kernel) rfl rfl (Nat.le_of_ble_eq_true rfl) d_M_init_10 (fun H locs hP hD hS => ?_)
  have hP : va_P (dC, dI) vwCl [(hm, .inr (1, [.ref qc, .int 0, .int 0, .int 0])), (qc, .inl (cI, 149, .inl (fun _ => 0)))] H := hP
  have hD : va_D A [(hm, .inr (1, [.ref qc, .int 0, .int 0, .int 0])), (qc, .inl (cI, 149, .inl (fun _ => 0)))] := hD
  refine lv_iconst (v := 0) hx hb d_M_init_13 (by decide) ?_
  refine lv_istore_n hx hb d_M_init_14 rfl hl (by decide) rfl (fun ls hl => ?_)
  have hl : lv_has ls 2 [(1, .int 0), (0, .ref hm)] := hl
  have hl := lv_sub (l' := [(0, .ref hm), (1, .int 0)]) hl [1, 0] rfl
  refine xloop (σ := (Nat → Int32) × (Int32) × (Int32) × (Int32) × (Int32)) (pc := 15) (fun n x H locs ls => va_P (dC, dI) vwCl [(hm, .inr (1, [.ref qc, .int (x.2.1), .int (x.2.2.1), .int (x.2.2.2.1)])), (qc, .inl (cI, 149, .inl (x.1)))] H ∧ va_D A [(hm, .inr (1, [.ref qc, .int (x.2.1), .int (x.2.2.1), .int (x.2.2.2.1)])), (qc, .inl (cI, 149, .inl (x.1)))] ∧ va_S A s.heap H locs ∧ lv_has ls 2 [(0, .ref hm), (1, .int (x.2.2.2.2))] ∧ fM_init_L15 n (x.1, x.2.1, x.2.2.1, x.2.2.2.1) x.2.2.2.2 = some (mc', mw', mf', mz')) ?_ (fun x H locs ls h => by have h9 := h.2.2.2.2; rw [fM_init_L15] at h9; cases h9) 300 (fun _ => 0, 0, 0, 0, 0) _ _ ls ⟨hP, hD, hS, hl, hf⟩
  intro n ih x H locs ls hI
  obtain ⟨mc, mw, mf, mz, v1⟩ := x
  obtain ⟨hP, hD, hS, hl, hf⟩ := hI
  have hP : va_P (dC, dI) vwCl [(hm, .inr (1, [.ref qc, .int mw, .int mf, .int mz])), (qc, .inl (cI, 149, .inl mc))] H := hP
  have hD : va_D A [(hm, .inr (1, [.ref qc, .int mw, .int mf, .int mz])), (qc, .inl (cI, 149, .inl mc))] := hD
  have hl : lv_has ls 2 [(0, .ref hm), (1, .int v1)] := hl
  rw [fM_init_L15] at hf
  refine lv_iload_n hx hb d_M_init_15 rfl (lv_at hl 1 rfl) ?_
  refine lv_iconst (v := 4) hx hb d_M_init_16 (by decide) ?_
  refine lv_icmp_ge (tgt := 36) hx hb d_M_init_17 rfl (fun hc1 => ?_) (fun hc1 => ?_)
  · have hf := ift hf hc1
    refine lv_aload_n hx hb d_M_init_36 rfl (lv_at hl 0 rfl) ?_
    refine lv_iconst (v := (-1)) hx hb d_M_init_37 (by decide) ?_
    refine va_put (D := (dC, dI)) (ci := 1) (v := .int (-1)) (ty := .int) (C := R_M) (T := F_M) (N := 4) hx hb hts inM t_M t_M_ok n_M hown hK hP hD hS 0 rfl rfl 3 (by decide) kf15 (fun _ h9 => h9) rfl (by decide +kernel) rfl rfl (Nat.le_of_ble_eq_true rfl) d_M_init_38 (fun H locs hP hD hS => ?_)
    have hP : va_P (dC, dI) vwCl [(hm, .inr (1, [.ref qc, .int mw, .int mf, .int (-1)])), (qc, .inl (cI, 149, .inl mc))] H := hP
    have hD : va_D A [(hm, .inr (1, [.ref qc, .int mw, .int mf, .int (-1)])), (qc, .inl (cI, 149, .inl mc))] := hD
    obtain ⟨e1_, e2_, e3_, e4_⟩ := lf4 hf
    subst e1_; subst e2_; subst e3_; subst e4_
    have hP9 := hP.sub (ws' := [(hm, .inr (1, [.ref qc, .int mw, .int mf, .int (-1)])), (qc, .inl (cI, 149, .inl mc))]) [0, 1] rfl
    have hD9 := hD.sub (ws' := [(hm, .inr (1, [.ref qc, .int mw, .int mf, .int (-1)])), (qc, .inl (cI, 149, .inl mc))]) [0, 1] (by decide) rfl
    refine W.widen (k := 1) (n := 149) (Nat.le_of_ble_eq_true rfl) (Nat.le_of_ble_eq_true rfl) ?_
    exact W.vret hx hb hr (fun t ht hW => ⟨⟨qc, rfl, trivial, by rw [ht]; exact hP9, va_K.moved hW.alike hK, hD9⟩, hS.F ht⟩) hS.2.2 d_M_init_41
  have hf := ifn hf hc1
  refine lv_aload_n hx hb d_M_init_20 rfl (lv_at hl 0 rfl) ?_
  refine va_get (D := (dC, dI)) (ci := 1) (v := .ref qc) (C := R_M) (T := F_M) (N := 4) hx hb hts inM hown hK hP 0 rfl rfl 0 (by decide) kf11 (fun _ h9 => h9) rfl d_M_init_21 ?_
  refine lv_bipush (v := 72) hx hb d_M_init_24 (by decide) ?_
  refine lv_iload_n hx hb d_M_init_26 rfl (lv_at hl 1 rfl) ?_
  refine lv_iadd hx hb d_M_init_27 ?_
  refine lv_iconst (v := 3) hx hb d_M_init_28 (by decide) ?_
  obtain ⟨hin_, hf⟩ := ix_some hf
  refine va_iast hx hb hK hP hD hS 1 0 rfl rfl hin_ d_M_init_29 (fun H locs hP hD hS => ?_)
  have hP : va_P (dC, dI) vwCl [(hm, .inr (1, [.ref qc, .int mw, .int mf, .int mz])), (qc, .inl (cI, 149, .inl (upd mc (72 + v1 : Int32).toNatClampNeg 3)))] H := hP
  have hD : va_D A [(hm, .inr (1, [.ref qc, .int mw, .int mf, .int mz])), (qc, .inl (cI, 149, .inl (upd mc (72 + v1 : Int32).toNatClampNeg 3)))] := hD
  refine lv_iinc (v := v1 + 1) hx hb d_M_init_30 hl (k := 1) rfl rfl (by decide) rfl (fun ls hl => ?_)
  have hl : lv_has ls 2 [(1, .int (v1 + 1)), (0, .ref hm)] := hl
  refine lv_goto (tgt := 15) hx hb d_M_init_33 rfl ?_
  have hl := lv_sub (l' := [(0, .ref hm), (1, .int (v1 + 1))]) hl [1, 0] rfl
  exact ih (upd mc (72 + v1 : Int32).toNatClampNeg 3, mw, mf, mz, v1 + 1) _ _ ls ⟨hP, hD, hS, hl, hf⟩
theorem d_M_at_0 : decode b_M_at 0 = .ok (.aload_n 0, 1) := by decide +kernel
theorem d_M_at_1 : decode b_M_at 1 = .ok (.getfield 11, 3) := by decide +kernel
theorem d_M_at_4 : decode b_M_at 4 = .ok (.iload_n 1, 1) := by decide +kernel
theorem d_M_at_5 : decode b_M_at 5 = .ok (.iaload, 1) := by decide +kernel
theorem d_M_at_6 : decode b_M_at 6 = .ok (.ireturn, 1) := by decide +kernel
def fM_at (σ : StM) (a1 : Int32) : Option (Int32) := match σ with | (mc, mw, mf, mz) => ix a1 149 fun j1 => some (mc j1)
set_option maxHeartbeats 4000000 in
set_option maxRecDepth 100000 in
theorem ctM_at (l : Launch) (dC : Nat → ClassId) (dI : Nat → Nat → Nat) (cI : ClassId) (hm qc : Nat) (mc : Nat → Int32) (mw : Int32) (mf : Int32) (mz : Int32) (a1 : Int32) (r : Int32) (hf : fM_at (mc, mw, mf, mz) a1 = some r) : CtI l y_M_at w_M_at ({ frames := 0, cells := 0, slots := 0, locals := 0 }) (dC, dI) [(cI, .int)] [.ref hm, .int a1] [(hm, .inr (1, [.ref qc, .int mw, .int mf, .int mz])), (qc, .inl (cI, 149, .inl mc))] [(hm, .inr (1, [.ref qc, .int mw, .int mf, .int mz])), (qc, .inl (cI, 149, .inl mc))] r := by
  intro sz
  refine Met.ofW (cc := b_M_at) (maxL := 2) (ret := some .int) (by decide) rfl ?_
  intro p e s m args below meth c s₁ B hml hv
  obtain ⟨rfl, hsz, hP, hK, hD0⟩ := hv
  have hx := B.exec
  have hb := B.bytes
  have hr := B.returns
  have hts := atoms_spec (ws := w_M_at) B.pre
  have hown : s.vm.findClass R_M = some m.cls := findClass_of_methodNamed B.named
  have hlocks := B.notSynchronized
  subst hsz
  have hD := hD0.self (sz := s.heap.size)
  generalize hAe : va_A [(hm, .inr (1, [.ref qc, .int mw, .int mf, .int mz])), (qc, .inl (cI, 149, .inl mc))] s.heap.size = A at hD ⊢
  have hA : ∀ q : Nat, s.heap.size ≤ q → A q := fun q h => by rw [← hAe]; exact Or.inr h
  have hS : va_S A s.heap s.heap [] := va_S.rf
  have hP : va_P (dC, dI) vwCl [(hm, .inr (1, [.ref qc, .int mw, .int mf, .int mz])), (qc, .inl (cI, 149, .inl mc))] s.heap := hP
  have hl := lv_entry ([.ref hm, .int a1]) (n := 2) (Nat.le_of_ble_eq_true rfl)
  rw [lg_entry_eq]
  generalize (lg_sl ([.ref hm, .int a1]) ++ List.replicate (2 - (lg_sl ([.ref hm, .int a1])).length) Slot.unset).toArray = ls at hl ⊢
  have hl : lv_has ls 2 [(0, .ref hm), (1, .int a1)] := hl
  have inM : ∀ w ∈ u_ws R_M F_M 4, w ∈ w_M_at := fun w h => List.mem_cons_of_mem _ (in_M w h)
  have kf11 := hts _ (List.mem_cons_of_mem _ wq64)
  rw [fM_at] at hf
  refine lv_aload_n hx hb d_M_at_0 rfl (lv_at hl 0 rfl) ?_
  refine va_get (D := (dC, dI)) (ci := 1) (v := .ref qc) (C := R_M) (T := F_M) (N := 4) hx hb hts inM hown hK hP 0 rfl rfl 0 (by decide) kf11 (fun _ h9 => h9) rfl d_M_at_1 ?_
  refine lv_iload_n hx hb d_M_at_4 rfl (lv_at hl 1 rfl) ?_
  obtain ⟨hin_, hf⟩ := ix_some hf
  refine va_iald hx hb hK hP 1 0 rfl rfl hin_ d_M_at_5 ?_
  have e1_ := lf1 hf
  subst e1_
  have hP9 := hP.sub (ws' := [(hm, .inr (1, [.ref qc, .int mw, .int mf, .int mz])), (qc, .inl (cI, 149, .inl mc))]) [0, 1] rfl
  have hD9 := hD.sub (ws' := [(hm, .inr (1, [.ref qc, .int mw, .int mf, .int mz])), (qc, .inl (cI, 149, .inl mc))]) [0, 1] (by decide) rfl
  exact W.iret (v := mc (a1 : Int32).toNatClampNeg) hx hb hr (fun t ht hW => ⟨⟨mc (a1 : Int32).toNatClampNeg, (), rfl, rfl, by rw [ht]; exact hP9, va_K.moved hW.alike hK, hD9⟩, hS.F ht⟩) hS.2.2 d_M_at_6
theorem d_M_count_0 : decode b_M_count 0 = .ok (.aload_n 0, 1) := by decide +kernel
theorem d_M_count_1 : decode b_M_count 1 = .ok (.getfield 11, 3) := by decide +kernel
theorem d_M_count_4 : decode b_M_count 4 = .ok (.sipush 148, 3) := by decide +kernel
theorem d_M_count_7 : decode b_M_count 7 = .ok (.iaload, 1) := by decide +kernel
theorem d_M_count_8 : decode b_M_count 8 = .ok (.ireturn, 1) := by decide +kernel
def fM_count (σ : StM) : Option (Int32) := match σ with | (mc, mw, mf, mz) => ix 148 149 fun j1 => some (mc j1)
set_option maxHeartbeats 4000000 in
set_option maxRecDepth 100000 in
theorem ctM_count (l : Launch) (dC : Nat → ClassId) (dI : Nat → Nat → Nat) (cI : ClassId) (hm qc : Nat) (mc : Nat → Int32) (mw : Int32) (mf : Int32) (mz : Int32) (r : Int32) (hf : fM_count (mc, mw, mf, mz) = some r) : CtI l y_M_count w_M_count ({ frames := 0, cells := 0, slots := 0, locals := 0 }) (dC, dI) [(cI, .int)] [.ref hm] [(hm, .inr (1, [.ref qc, .int mw, .int mf, .int mz])), (qc, .inl (cI, 149, .inl mc))] [(hm, .inr (1, [.ref qc, .int mw, .int mf, .int mz])), (qc, .inl (cI, 149, .inl mc))] r := by
  intro sz
  refine Met.ofW (cc := b_M_count) (maxL := 1) (ret := some .int) (by decide) rfl ?_
  intro p e s m args below meth c s₁ B hml hv
  obtain ⟨rfl, hsz, hP, hK, hD0⟩ := hv
  have hx := B.exec
  have hb := B.bytes
  have hr := B.returns
  have hts := atoms_spec (ws := w_M_count) B.pre
  have hown : s.vm.findClass R_M = some m.cls := findClass_of_methodNamed B.named
  have hlocks := B.notSynchronized
  subst hsz
  have hD := hD0.self (sz := s.heap.size)
  generalize hAe : va_A [(hm, .inr (1, [.ref qc, .int mw, .int mf, .int mz])), (qc, .inl (cI, 149, .inl mc))] s.heap.size = A at hD ⊢
  have hA : ∀ q : Nat, s.heap.size ≤ q → A q := fun q h => by rw [← hAe]; exact Or.inr h
  have hS : va_S A s.heap s.heap [] := va_S.rf
  have hP : va_P (dC, dI) vwCl [(hm, .inr (1, [.ref qc, .int mw, .int mf, .int mz])), (qc, .inl (cI, 149, .inl mc))] s.heap := hP
  have hl := lv_entry ([.ref hm]) (n := 1) (Nat.le_of_ble_eq_true rfl)
  rw [lg_entry_eq]
  generalize (lg_sl ([.ref hm]) ++ List.replicate (1 - (lg_sl ([.ref hm])).length) Slot.unset).toArray = ls at hl ⊢
  have hl : lv_has ls 1 [(0, .ref hm)] := hl
  have inM : ∀ w ∈ u_ws R_M F_M 4, w ∈ w_M_count := fun w h => List.mem_cons_of_mem _ (in_M w h)
  have kf11 := hts _ (List.mem_cons_of_mem _ wq64)
  rw [fM_count] at hf
  refine lv_aload_n hx hb d_M_count_0 rfl (lv_at hl 0 rfl) ?_
  refine va_get (D := (dC, dI)) (ci := 1) (v := .ref qc) (C := R_M) (T := F_M) (N := 4) hx hb hts inM hown hK hP 0 rfl rfl 0 (by decide) kf11 (fun _ h9 => h9) rfl d_M_count_1 ?_
  refine lv_sipush (v := 148) hx hb d_M_count_4 (by decide) ?_
  obtain ⟨hin_, hf⟩ := ix_some hf
  refine va_iald hx hb hK hP 1 0 rfl rfl hin_ d_M_count_7 ?_
  have e1_ := lf1 hf
  subst e1_
  have hP9 := hP.sub (ws' := [(hm, .inr (1, [.ref qc, .int mw, .int mf, .int mz])), (qc, .inl (cI, 149, .inl mc))]) [0, 1] rfl
  have hD9 := hD.sub (ws' := [(hm, .inr (1, [.ref qc, .int mw, .int mf, .int mz])), (qc, .inl (cI, 149, .inl mc))]) [0, 1] (by decide) rfl
  exact W.iret (v := mc (148 : Int32).toNatClampNeg) hx hb hr (fun t ht hW => ⟨⟨mc (148 : Int32).toNatClampNeg, (), rfl, rfl, by rw [ht]; exact hP9, va_K.moved hW.alike hK, hD9⟩, hS.F ht⟩) hS.2.2 d_M_count_8
theorem d_M_written_0 : decode b_M_written 0 = .ok (.aload_n 0, 1) := by decide +kernel
theorem d_M_written_1 : decode b_M_written 1 = .ok (.getfield 19, 3) := by decide +kernel
theorem d_M_written_4 : decode b_M_written 4 = .ok (.ireturn, 1) := by decide +kernel
def fM_written (σ : StM) : Option (Int32) := match σ with | (mc, mw, mf, mz) => some mw
set_option maxHeartbeats 4000000 in
set_option maxRecDepth 100000 in
theorem ctM_written (l : Launch) (dC : Nat → ClassId) (dI : Nat → Nat → Nat) (cI : ClassId) (hm qc : Nat) (mc : Nat → Int32) (mw : Int32) (mf : Int32) (mz : Int32) (r : Int32) (hf : fM_written (mc, mw, mf, mz) = some r) : CtI l y_M_written w_M_written ({ frames := 0, cells := 0, slots := 0, locals := 0 }) (dC, dI) [(cI, .int)] [.ref hm] [(hm, .inr (1, [.ref qc, .int mw, .int mf, .int mz])), (qc, .inl (cI, 149, .inl mc))] [(hm, .inr (1, [.ref qc, .int mw, .int mf, .int mz])), (qc, .inl (cI, 149, .inl mc))] r := by
  intro sz
  refine Met.ofW (cc := b_M_written) (maxL := 1) (ret := some .int) (by decide) rfl ?_
  intro p e s m args below meth c s₁ B hml hv
  obtain ⟨rfl, hsz, hP, hK, hD0⟩ := hv
  have hx := B.exec
  have hb := B.bytes
  have hr := B.returns
  have hts := atoms_spec (ws := w_M_written) B.pre
  have hown : s.vm.findClass R_M = some m.cls := findClass_of_methodNamed B.named
  have hlocks := B.notSynchronized
  subst hsz
  have hD := hD0.self (sz := s.heap.size)
  generalize hAe : va_A [(hm, .inr (1, [.ref qc, .int mw, .int mf, .int mz])), (qc, .inl (cI, 149, .inl mc))] s.heap.size = A at hD ⊢
  have hA : ∀ q : Nat, s.heap.size ≤ q → A q := fun q h => by rw [← hAe]; exact Or.inr h
  have hS : va_S A s.heap s.heap [] := va_S.rf
  have hP : va_P (dC, dI) vwCl [(hm, .inr (1, [.ref qc, .int mw, .int mf, .int mz])), (qc, .inl (cI, 149, .inl mc))] s.heap := hP
  have hl := lv_entry ([.ref hm]) (n := 1) (Nat.le_of_ble_eq_true rfl)
  rw [lg_entry_eq]
  generalize (lg_sl ([.ref hm]) ++ List.replicate (1 - (lg_sl ([.ref hm])).length) Slot.unset).toArray = ls at hl ⊢
  have hl : lv_has ls 1 [(0, .ref hm)] := hl
  have inM : ∀ w ∈ u_ws R_M F_M 4, w ∈ w_M_written := fun w h => List.mem_cons_of_mem _ (in_M w h)
  have kf19 := hts _ (List.mem_cons_of_mem _ wq65)
  rw [fM_written] at hf
  refine lv_aload_n hx hb d_M_written_0 rfl (lv_at hl 0 rfl) ?_
  refine va_get (D := (dC, dI)) (ci := 1) (v := .int mw) (C := R_M) (T := F_M) (N := 4) hx hb hts inM hown hK hP 0 rfl rfl 1 (by decide) kf19 (fun _ h9 => h9) rfl d_M_written_1 ?_
  have e1_ := lf1 hf
  subst e1_
  have hP9 := hP.sub (ws' := [(hm, .inr (1, [.ref qc, .int mw, .int mf, .int mz])), (qc, .inl (cI, 149, .inl mc))]) [0, 1] rfl
  have hD9 := hD.sub (ws' := [(hm, .inr (1, [.ref qc, .int mw, .int mf, .int mz])), (qc, .inl (cI, 149, .inl mc))]) [0, 1] (by decide) rfl
  exact W.iret (v := mw) hx hb hr (fun t ht hW => ⟨⟨mw, (), rfl, rfl, by rw [ht]; exact hP9, va_K.moved hW.alike hK, hD9⟩, hS.F ht⟩) hS.2.2 d_M_written_4
theorem d_M_failed_0 : decode b_M_failed 0 = .ok (.aload_n 0, 1) := by decide +kernel
theorem d_M_failed_1 : decode b_M_failed 1 = .ok (.getfield 22, 3) := by decide +kernel
theorem d_M_failed_4 : decode b_M_failed 4 = .ok (.ireturn, 1) := by decide +kernel
def fM_failed (σ : StM) : Option (Int32) := match σ with | (mc, mw, mf, mz) => some mf
set_option maxHeartbeats 4000000 in
set_option maxRecDepth 100000 in
theorem ctM_failed (l : Launch) (dC : Nat → ClassId) (dI : Nat → Nat → Nat) (cI : ClassId) (hm qc : Nat) (mc : Nat → Int32) (mw : Int32) (mf : Int32) (mz : Int32) (r : Int32) (hf : fM_failed (mc, mw, mf, mz) = some r) : CtI l y_M_failed w_M_failed ({ frames := 0, cells := 0, slots := 0, locals := 0 }) (dC, dI) [(cI, .int)] [.ref hm] [(hm, .inr (1, [.ref qc, .int mw, .int mf, .int mz])), (qc, .inl (cI, 149, .inl mc))] [(hm, .inr (1, [.ref qc, .int mw, .int mf, .int mz])), (qc, .inl (cI, 149, .inl mc))] r := by
  intro sz
  refine Met.ofW (cc := b_M_failed) (maxL := 1) (ret := some .int) (by decide) rfl ?_
  intro p e s m args below meth c s₁ B hml hv
  obtain ⟨rfl, hsz, hP, hK, hD0⟩ := hv
  have hx := B.exec
  have hb := B.bytes
  have hr := B.returns
  have hts := atoms_spec (ws := w_M_failed) B.pre
  have hown : s.vm.findClass R_M = some m.cls := findClass_of_methodNamed B.named
  have hlocks := B.notSynchronized
  subst hsz
  have hD := hD0.self (sz := s.heap.size)
  generalize hAe : va_A [(hm, .inr (1, [.ref qc, .int mw, .int mf, .int mz])), (qc, .inl (cI, 149, .inl mc))] s.heap.size = A at hD ⊢
  have hA : ∀ q : Nat, s.heap.size ≤ q → A q := fun q h => by rw [← hAe]; exact Or.inr h
  have hS : va_S A s.heap s.heap [] := va_S.rf
  have hP : va_P (dC, dI) vwCl [(hm, .inr (1, [.ref qc, .int mw, .int mf, .int mz])), (qc, .inl (cI, 149, .inl mc))] s.heap := hP
  have hl := lv_entry ([.ref hm]) (n := 1) (Nat.le_of_ble_eq_true rfl)
  rw [lg_entry_eq]
  generalize (lg_sl ([.ref hm]) ++ List.replicate (1 - (lg_sl ([.ref hm])).length) Slot.unset).toArray = ls at hl ⊢
  have hl : lv_has ls 1 [(0, .ref hm)] := hl
  have inM : ∀ w ∈ u_ws R_M F_M 4, w ∈ w_M_failed := fun w h => List.mem_cons_of_mem _ (in_M w h)
  have kf22 := hts _ (List.mem_cons_of_mem _ wq66)
  rw [fM_failed] at hf
  refine lv_aload_n hx hb d_M_failed_0 rfl (lv_at hl 0 rfl) ?_
  refine va_get (D := (dC, dI)) (ci := 1) (v := .int mf) (C := R_M) (T := F_M) (N := 4) hx hb hts inM hown hK hP 0 rfl rfl 2 (by decide) kf22 (fun _ h9 => h9) rfl d_M_failed_1 ?_
  have e1_ := lf1 hf
  subst e1_
  have hP9 := hP.sub (ws' := [(hm, .inr (1, [.ref qc, .int mw, .int mf, .int mz])), (qc, .inl (cI, 149, .inl mc))]) [0, 1] rfl
  have hD9 := hD.sub (ws' := [(hm, .inr (1, [.ref qc, .int mw, .int mf, .int mz])), (qc, .inl (cI, 149, .inl mc))]) [0, 1] (by decide) rfl
  exact W.iret (v := mf) hx hb hr (fun t ht hW => ⟨⟨mf, (), rfl, rfl, by rw [ht]; exact hP9, va_K.moved hW.alike hK, hD9⟩, hS.F ht⟩) hS.2.2 d_M_failed_4
theorem d_M_arm_0 : decode b_M_arm 0 = .ok (.aload_n 0, 1) := by decide +kernel
theorem d_M_arm_1 : decode b_M_arm 1 = .ok (.iload_n 1, 1) := by decide +kernel
theorem d_M_arm_2 : decode b_M_arm 2 = .ok (.putfield 15, 3) := by decide +kernel
theorem d_M_arm_5 : decode b_M_arm 5 = .ok (.return_, 1) := by decide +kernel
def fM_arm (σ : StM) (a1 : Int32) : Option (StM) := match σ with | (mc, mw, mf, mz) => some (mc, mw, mf, a1)
set_option maxHeartbeats 4000000 in
set_option maxRecDepth 100000 in
theorem ctM_arm (l : Launch) (dC : Nat → ClassId) (dI : Nat → Nat → Nat) (cI : ClassId) (hm qc : Nat) (mc : Nat → Int32) (mw : Int32) (mf : Int32) (mz : Int32) (a1 : Int32) (mc' : Nat → Int32) (mw' : Int32) (mf' : Int32) (mz' : Int32) (hf : fM_arm (mc, mw, mf, mz) a1 = some (mc', mw', mf', mz')) : CtV l y_M_arm w_M_arm ({ frames := 0, cells := 0, slots := 0, locals := 0 }) (dC, dI) [(cI, .int)] [.ref hm, .int a1] [(hm, .inr (1, [.ref qc, .int mw, .int mf, .int mz])), (qc, .inl (cI, 149, .inl mc))] [(hm, .inr (1, [.ref qc, .int mw', .int mf', .int mz'])), (qc, .inl (cI, 149, .inl mc'))] := by
  intro sz
  refine Met.ofW (cc := b_M_arm) (maxL := 2) (ret := none) (by decide) rfl ?_
  intro p e s m args below meth c s₁ B hml hv
  obtain ⟨rfl, hsz, hP, hK, hD0⟩ := hv
  have hx := B.exec
  have hb := B.bytes
  have hr := B.returns
  have hts := atoms_spec (ws := w_M_arm) B.pre
  have hown : s.vm.findClass R_M = some m.cls := findClass_of_methodNamed B.named
  have hlocks := B.notSynchronized
  subst hsz
  have hD := hD0.self (sz := s.heap.size)
  generalize hAe : va_A [(hm, .inr (1, [.ref qc, .int mw, .int mf, .int mz])), (qc, .inl (cI, 149, .inl mc))] s.heap.size = A at hD ⊢
  have hA : ∀ q : Nat, s.heap.size ≤ q → A q := fun q h => by rw [← hAe]; exact Or.inr h
  have hS : va_S A s.heap s.heap [] := va_S.rf
  have hP : va_P (dC, dI) vwCl [(hm, .inr (1, [.ref qc, .int mw, .int mf, .int mz])), (qc, .inl (cI, 149, .inl mc))] s.heap := hP
  have hl := lv_entry ([.ref hm, .int a1]) (n := 2) (Nat.le_of_ble_eq_true rfl)
  rw [lg_entry_eq]
  generalize (lg_sl ([.ref hm, .int a1]) ++ List.replicate (2 - (lg_sl ([.ref hm, .int a1])).length) Slot.unset).toArray = ls at hl ⊢
  have hl : lv_has ls 2 [(0, .ref hm), (1, .int a1)] := hl
  have inM : ∀ w ∈ u_ws R_M F_M 4, w ∈ w_M_arm := fun w h => List.mem_cons_of_mem _ (in_M w h)
  have kf15 := hts _ (List.mem_cons_of_mem _ wq67)
  rw [fM_arm] at hf
  refine lv_aload_n hx hb d_M_arm_0 rfl (lv_at hl 0 rfl) ?_
  refine lv_iload_n hx hb d_M_arm_1 rfl (lv_at hl 1 rfl) ?_
  refine va_put (D := (dC, dI)) (ci := 1) (v := .int a1) (ty := .int) (C := R_M) (T := F_M) (N := 4) hx hb hts inM t_M t_M_ok n_M hown hK hP hD hS 0 rfl rfl 3 (by decide) kf15 (fun _ h9 => h9) rfl (by decide +kernel) rfl rfl (Nat.le_of_ble_eq_true rfl) d_M_arm_2 (fun H locs hP hD hS => ?_)
  have hP : va_P (dC, dI) vwCl [(hm, .inr (1, [.ref qc, .int mw, .int mf, .int a1])), (qc, .inl (cI, 149, .inl mc))] H := hP
  have hD : va_D A [(hm, .inr (1, [.ref qc, .int mw, .int mf, .int a1])), (qc, .inl (cI, 149, .inl mc))] := hD
  obtain ⟨e1_, e2_, e3_, e4_⟩ := lf4 hf
  subst e1_; subst e2_; subst e3_; subst e4_
  have hP9 := hP.sub (ws' := [(hm, .inr (1, [.ref qc, .int mw, .int mf, .int a1])), (qc, .inl (cI, 149, .inl mc))]) [0, 1] rfl
  have hD9 := hD.sub (ws' := [(hm, .inr (1, [.ref qc, .int mw, .int mf, .int a1])), (qc, .inl (cI, 149, .inl mc))]) [0, 1] (by decide) rfl
  exact W.vret hx hb hr (fun t ht hW => ⟨⟨(), rfl, trivial, by rw [ht]; exact hP9, va_K.moved hW.alike hK, hD9⟩, hS.F ht⟩) hS.2.2 d_M_arm_5
theorem d_M_write_0 : decode b_M_write 0 = .ok (.aload_n 0, 1) := by decide +kernel
theorem d_M_write_1 : decode b_M_write 1 = .ok (.getfield 15, 3) := by decide +kernel
theorem d_M_write_4 : decode b_M_write 4 = .ok (.ifCond .ne 20, 3) := by decide +kernel
theorem d_M_write_7 : decode b_M_write 7 = .ok (.aload_n 0, 1) := by decide +kernel
theorem d_M_write_8 : decode b_M_write 8 = .ok (.iconst (-1), 1) := by decide +kernel
theorem d_M_write_9 : decode b_M_write 9 = .ok (.putfield 15, 3) := by decide +kernel
theorem d_M_write_12 : decode b_M_write 12 = .ok (.aload_n 0, 1) := by decide +kernel
theorem d_M_write_13 : decode b_M_write 13 = .ok (.dup, 1) := by decide +kernel
theorem d_M_write_14 : decode b_M_write 14 = .ok (.getfield 22, 3) := by decide +kernel
theorem d_M_write_17 : decode b_M_write 17 = .ok (.iconst 1, 1) := by decide +kernel
theorem d_M_write_18 : decode b_M_write 18 = .ok (.iadd, 1) := by decide +kernel
theorem d_M_write_19 : decode b_M_write 19 = .ok (.putfield 22, 3) := by decide +kernel
theorem d_M_write_22 : decode b_M_write 22 = .ok (.iconst 0, 1) := by decide +kernel
theorem d_M_write_23 : decode b_M_write 23 = .ok (.ireturn, 1) := by decide +kernel
theorem d_M_write_24 : decode b_M_write 24 = .ok (.aload_n 0, 1) := by decide +kernel
theorem d_M_write_25 : decode b_M_write 25 = .ok (.getfield 15, 3) := by decide +kernel
theorem d_M_write_28 : decode b_M_write 28 = .ok (.ifCond .le 13, 3) := by decide +kernel
theorem d_M_write_31 : decode b_M_write 31 = .ok (.aload_n 0, 1) := by decide +kernel
theorem d_M_write_32 : decode b_M_write 32 = .ok (.dup, 1) := by decide +kernel
theorem d_M_write_33 : decode b_M_write 33 = .ok (.getfield 15, 3) := by decide +kernel
theorem d_M_write_36 : decode b_M_write 36 = .ok (.iconst 1, 1) := by decide +kernel
theorem d_M_write_37 : decode b_M_write 37 = .ok (.isub, 1) := by decide +kernel
theorem d_M_write_38 : decode b_M_write 38 = .ok (.putfield 15, 3) := by decide +kernel
theorem d_M_write_41 : decode b_M_write 41 = .ok (.aload_n 0, 1) := by decide +kernel
theorem d_M_write_42 : decode b_M_write 42 = .ok (.getfield 11, 3) := by decide +kernel
theorem d_M_write_45 : decode b_M_write 45 = .ok (.iload_n 1, 1) := by decide +kernel
theorem d_M_write_46 : decode b_M_write 46 = .ok (.iload_n 2, 1) := by decide +kernel
theorem d_M_write_47 : decode b_M_write 47 = .ok (.iastore, 1) := by decide +kernel
theorem d_M_write_48 : decode b_M_write 48 = .ok (.aload_n 0, 1) := by decide +kernel
theorem d_M_write_49 : decode b_M_write 49 = .ok (.dup, 1) := by decide +kernel
theorem d_M_write_50 : decode b_M_write 50 = .ok (.getfield 19, 3) := by decide +kernel
theorem d_M_write_53 : decode b_M_write 53 = .ok (.iconst 1, 1) := by decide +kernel
theorem d_M_write_54 : decode b_M_write 54 = .ok (.iadd, 1) := by decide +kernel
theorem d_M_write_55 : decode b_M_write 55 = .ok (.putfield 19, 3) := by decide +kernel
theorem d_M_write_58 : decode b_M_write 58 = .ok (.iconst 1, 1) := by decide +kernel
theorem d_M_write_59 : decode b_M_write 59 = .ok (.ireturn, 1) := by decide +kernel
def fM_write (σ : StM) (a1 : Int32) (a2 : Int32) : Option (Int32 × StM) := match σ with | (mc, mw, mf, mz) => if mz = 0 then (some (0, mc, mw, mf + 1, (-1))) else (if mz ≤ 0 then (ix a1 149 fun j3 => some (1, upd mc j3 a2, mw + 1, mf, mz)) else (ix a1 149 fun j4 => some (1, upd mc j4 a2, mw + 1, mf, mz - 1)))
set_option maxHeartbeats 4000000 in
set_option maxRecDepth 100000 in
theorem ctM_write (l : Launch) (dC : Nat → ClassId) (dI : Nat → Nat → Nat) (cI : ClassId) (hm qc : Nat) (mc : Nat → Int32) (mw : Int32) (mf : Int32) (mz : Int32) (a1 : Int32) (a2 : Int32) (r : Int32) (mc' : Nat → Int32) (mw' : Int32) (mf' : Int32) (mz' : Int32) (hf : fM_write (mc, mw, mf, mz) a1 a2 = some (r, mc', mw', mf', mz')) : CtZ l y_M_write w_M_write ({ frames := 0, cells := 0, slots := 0, locals := 0 }) (dC, dI) [(cI, .int)] [.ref hm, .int a1, .int a2] [(hm, .inr (1, [.ref qc, .int mw, .int mf, .int mz])), (qc, .inl (cI, 149, .inl mc))] [(hm, .inr (1, [.ref qc, .int mw', .int mf', .int mz'])), (qc, .inl (cI, 149, .inl mc'))] r := by
  intro sz
  refine Met.ofW (cc := b_M_write) (maxL := 3) (ret := some .boolean) (by decide) rfl ?_
  intro p e s m args below meth c s₁ B hml hv
  obtain ⟨rfl, hsz, hP, hK, hD0⟩ := hv
  have hx := B.exec
  have hb := B.bytes
  have hr := B.returns
  have hts := atoms_spec (ws := w_M_write) B.pre
  have hown : s.vm.findClass R_M = some m.cls := findClass_of_methodNamed B.named
  have hlocks := B.notSynchronized
  subst hsz
  have hD := hD0.self (sz := s.heap.size)
  generalize hAe : va_A [(hm, .inr (1, [.ref qc, .int mw, .int mf, .int mz])), (qc, .inl (cI, 149, .inl mc))] s.heap.size = A at hD ⊢
  have hA : ∀ q : Nat, s.heap.size ≤ q → A q := fun q h => by rw [← hAe]; exact Or.inr h
  have hS : va_S A s.heap s.heap [] := va_S.rf
  have hP : va_P (dC, dI) vwCl [(hm, .inr (1, [.ref qc, .int mw, .int mf, .int mz])), (qc, .inl (cI, 149, .inl mc))] s.heap := hP
  have hl := lv_entry ([.ref hm, .int a1, .int a2]) (n := 3) (Nat.le_of_ble_eq_true rfl)
  rw [lg_entry_eq]
  generalize (lg_sl ([.ref hm, .int a1, .int a2]) ++ List.replicate (3 - (lg_sl ([.ref hm, .int a1, .int a2])).length) Slot.unset).toArray = ls at hl ⊢
  have hl : lv_has ls 3 [(0, .ref hm), (1, .int a1), (2, .int a2)] := hl
  have inM : ∀ w ∈ u_ws R_M F_M 4, w ∈ w_M_write := fun w h => List.mem_cons_of_mem _ (in_M w h)
  have kf11 := hts _ (List.mem_cons_of_mem _ wq64)
  have kf15 := hts _ (List.mem_cons_of_mem _ wq67)
  have kf19 := hts _ (List.mem_cons_of_mem _ wq65)
  have kf22 := hts _ (List.mem_cons_of_mem _ wq66)
  rw [fM_write] at hf
  refine lv_aload_n hx hb d_M_write_0 rfl (lv_at hl 0 rfl) ?_
  refine va_get (D := (dC, dI)) (ci := 1) (v := .int mz) (C := R_M) (T := F_M) (N := 4) hx hb hts inM hown hK hP 0 rfl rfl 3 (by decide) kf15 (fun _ h9 => h9) rfl d_M_write_1 ?_
  refine lv_if_ne (tgt := 24) hx hb d_M_write_4 rfl (fun hc1 => ?_) (fun hc1 => ?_)
  · have hf := ifn hf hc1
    refine lv_aload_n hx hb d_M_write_24 rfl (lv_at hl 0 rfl) ?_
    refine va_get (D := (dC, dI)) (ci := 1) (v := .int mz) (C := R_M) (T := F_M) (N := 4) hx hb hts inM hown hK hP 0 rfl rfl 3 (by decide) kf15 (fun _ h9 => h9) rfl d_M_write_25 ?_
    refine lv_if_le (tgt := 41) hx hb d_M_write_28 rfl (fun hc2 => ?_) (fun hc2 => ?_)
    · have hf := ift hf hc2
      refine lv_aload_n hx hb d_M_write_41 rfl (lv_at hl 0 rfl) ?_
      refine va_get (D := (dC, dI)) (ci := 1) (v := .ref qc) (C := R_M) (T := F_M) (N := 4) hx hb hts inM hown hK hP 0 rfl rfl 0 (by decide) kf11 (fun _ h9 => h9) rfl d_M_write_42 ?_
      refine lv_iload_n hx hb d_M_write_45 rfl (lv_at hl 1 rfl) ?_
      refine lv_iload_n hx hb d_M_write_46 rfl (lv_at hl 2 rfl) ?_
      obtain ⟨hin_, hf⟩ := ix_some hf
      refine va_iast hx hb hK hP hD hS 1 0 rfl rfl hin_ d_M_write_47 (fun H locs hP hD hS => ?_)
      have hP : va_P (dC, dI) vwCl [(hm, .inr (1, [.ref qc, .int mw, .int mf, .int mz])), (qc, .inl (cI, 149, .inl (upd mc (a1 : Int32).toNatClampNeg a2)))] H := hP
      have hD : va_D A [(hm, .inr (1, [.ref qc, .int mw, .int mf, .int mz])), (qc, .inl (cI, 149, .inl (upd mc (a1 : Int32).toNatClampNeg a2)))] := hD
      refine lv_aload_n hx hb d_M_write_48 rfl (lv_at hl 0 rfl) ?_
      refine lv_dup hx hb d_M_write_49 rfl ?_
      refine va_get (D := (dC, dI)) (ci := 1) (v := .int mw) (C := R_M) (T := F_M) (N := 4) hx hb hts inM hown hK hP 0 rfl rfl 1 (by decide) kf19 (fun _ h9 => h9) rfl d_M_write_50 ?_
      refine lv_iconst (v := 1) hx hb d_M_write_53 (by decide) ?_
      refine lv_iadd hx hb d_M_write_54 ?_
      refine va_put (D := (dC, dI)) (ci := 1) (v := .int (mw + 1)) (ty := .int) (C := R_M) (T := F_M) (N := 4) hx hb hts inM t_M t_M_ok n_M hown hK hP hD hS 0 rfl rfl 1 (by decide) kf19 (fun _ h9 => h9) rfl (by decide +kernel) rfl rfl (Nat.le_of_ble_eq_true rfl) d_M_write_55 (fun H locs hP hD hS => ?_)
      have hP : va_P (dC, dI) vwCl [(hm, .inr (1, [.ref qc, .int (mw + 1), .int mf, .int mz])), (qc, .inl (cI, 149, .inl (upd mc (a1 : Int32).toNatClampNeg a2)))] H := hP
      have hD : va_D A [(hm, .inr (1, [.ref qc, .int (mw + 1), .int mf, .int mz])), (qc, .inl (cI, 149, .inl (upd mc (a1 : Int32).toNatClampNeg a2)))] := hD
      refine lv_iconst (v := 1) hx hb d_M_write_58 (by decide) ?_
      obtain ⟨e1_, e2_, e3_, e4_, e5_⟩ := lf5 hf
      subst e1_; subst e2_; subst e3_; subst e4_; subst e5_
      have hP9 := hP.sub (ws' := [(hm, .inr (1, [.ref qc, .int (mw + 1), .int mf, .int mz])), (qc, .inl (cI, 149, .inl (upd mc (a1 : Int32).toNatClampNeg a2)))]) [0, 1] rfl
      have hD9 := hD.sub (ws' := [(hm, .inr (1, [.ref qc, .int (mw + 1), .int mf, .int mz])), (qc, .inl (cI, 149, .inl (upd mc (a1 : Int32).toNatClampNeg a2)))]) [0, 1] (by decide) rfl
      exact W.zret (v := 1) (ty := .boolean) hx hb hr rfl (fun t ht hW => ⟨⟨1, (), rfl, ⟨rfl, rfl⟩, by rw [ht]; exact hP9, va_K.moved hW.alike hK, hD9⟩, hS.F ht⟩) hS.2.2 d_M_write_59
    have hf := ifn hf hc2
    refine lv_aload_n hx hb d_M_write_31 rfl (lv_at hl 0 rfl) ?_
    refine lv_dup hx hb d_M_write_32 rfl ?_
    refine va_get (D := (dC, dI)) (ci := 1) (v := .int mz) (C := R_M) (T := F_M) (N := 4) hx hb hts inM hown hK hP 0 rfl rfl 3 (by decide) kf15 (fun _ h9 => h9) rfl d_M_write_33 ?_
    refine lv_iconst (v := 1) hx hb d_M_write_36 (by decide) ?_
    refine lv_isub hx hb d_M_write_37 ?_
    refine va_put (D := (dC, dI)) (ci := 1) (v := .int (mz - 1)) (ty := .int) (C := R_M) (T := F_M) (N := 4) hx hb hts inM t_M t_M_ok n_M hown hK hP hD hS 0 rfl rfl 3 (by decide) kf15 (fun _ h9 => h9) rfl (by decide +kernel) rfl rfl (Nat.le_of_ble_eq_true rfl) d_M_write_38 (fun H locs hP hD hS => ?_)
    have hP : va_P (dC, dI) vwCl [(hm, .inr (1, [.ref qc, .int mw, .int mf, .int (mz - 1)])), (qc, .inl (cI, 149, .inl mc))] H := hP
    have hD : va_D A [(hm, .inr (1, [.ref qc, .int mw, .int mf, .int (mz - 1)])), (qc, .inl (cI, 149, .inl mc))] := hD
    refine lv_aload_n hx hb d_M_write_41 rfl (lv_at hl 0 rfl) ?_
    refine va_get (D := (dC, dI)) (ci := 1) (v := .ref qc) (C := R_M) (T := F_M) (N := 4) hx hb hts inM hown hK hP 0 rfl rfl 0 (by decide) kf11 (fun _ h9 => h9) rfl d_M_write_42 ?_
    refine lv_iload_n hx hb d_M_write_45 rfl (lv_at hl 1 rfl) ?_
    refine lv_iload_n hx hb d_M_write_46 rfl (lv_at hl 2 rfl) ?_
    obtain ⟨hin_, hf⟩ := ix_some hf
    refine va_iast hx hb hK hP hD hS 1 0 rfl rfl hin_ d_M_write_47 (fun H locs hP hD hS => ?_)
    have hP : va_P (dC, dI) vwCl [(hm, .inr (1, [.ref qc, .int mw, .int mf, .int (mz - 1)])), (qc, .inl (cI, 149, .inl (upd mc (a1 : Int32).toNatClampNeg a2)))] H := hP
    have hD : va_D A [(hm, .inr (1, [.ref qc, .int mw, .int mf, .int (mz - 1)])), (qc, .inl (cI, 149, .inl (upd mc (a1 : Int32).toNatClampNeg a2)))] := hD
    refine lv_aload_n hx hb d_M_write_48 rfl (lv_at hl 0 rfl) ?_
    refine lv_dup hx hb d_M_write_49 rfl ?_
    refine va_get (D := (dC, dI)) (ci := 1) (v := .int mw) (C := R_M) (T := F_M) (N := 4) hx hb hts inM hown hK hP 0 rfl rfl 1 (by decide) kf19 (fun _ h9 => h9) rfl d_M_write_50 ?_
    refine lv_iconst (v := 1) hx hb d_M_write_53 (by decide) ?_
    refine lv_iadd hx hb d_M_write_54 ?_
    refine va_put (D := (dC, dI)) (ci := 1) (v := .int (mw + 1)) (ty := .int) (C := R_M) (T := F_M) (N := 4) hx hb hts inM t_M t_M_ok n_M hown hK hP hD hS 0 rfl rfl 1 (by decide) kf19 (fun _ h9 => h9) rfl (by decide +kernel) rfl rfl (Nat.le_of_ble_eq_true rfl) d_M_write_55 (fun H locs hP hD hS => ?_)
    have hP : va_P (dC, dI) vwCl [(hm, .inr (1, [.ref qc, .int (mw + 1), .int mf, .int (mz - 1)])), (qc, .inl (cI, 149, .inl (upd mc (a1 : Int32).toNatClampNeg a2)))] H := hP
    have hD : va_D A [(hm, .inr (1, [.ref qc, .int (mw + 1), .int mf, .int (mz - 1)])), (qc, .inl (cI, 149, .inl (upd mc (a1 : Int32).toNatClampNeg a2)))] := hD
    refine lv_iconst (v := 1) hx hb d_M_write_58 (by decide) ?_
    obtain ⟨e1_, e2_, e3_, e4_, e5_⟩ := lf5 hf
    subst e1_; subst e2_; subst e3_; subst e4_; subst e5_
    have hP9 := hP.sub (ws' := [(hm, .inr (1, [.ref qc, .int (mw + 1), .int mf, .int (mz - 1)])), (qc, .inl (cI, 149, .inl (upd mc (a1 : Int32).toNatClampNeg a2)))]) [0, 1] rfl
    have hD9 := hD.sub (ws' := [(hm, .inr (1, [.ref qc, .int (mw + 1), .int mf, .int (mz - 1)])), (qc, .inl (cI, 149, .inl (upd mc (a1 : Int32).toNatClampNeg a2)))]) [0, 1] (by decide) rfl
    exact W.zret (v := 1) (ty := .boolean) hx hb hr rfl (fun t ht hW => ⟨⟨1, (), rfl, ⟨rfl, rfl⟩, by rw [ht]; exact hP9, va_K.moved hW.alike hK, hD9⟩, hS.F ht⟩) hS.2.2 d_M_write_59
  have hf := ift hf hc1
  refine lv_aload_n hx hb d_M_write_7 rfl (lv_at hl 0 rfl) ?_
  refine lv_iconst (v := (-1)) hx hb d_M_write_8 (by decide) ?_
  refine va_put (D := (dC, dI)) (ci := 1) (v := .int (-1)) (ty := .int) (C := R_M) (T := F_M) (N := 4) hx hb hts inM t_M t_M_ok n_M hown hK hP hD hS 0 rfl rfl 3 (by decide) kf15 (fun _ h9 => h9) rfl (by decide +kernel) rfl rfl (Nat.le_of_ble_eq_true rfl) d_M_write_9 (fun H locs hP hD hS => ?_)
  have hP : va_P (dC, dI) vwCl [(hm, .inr (1, [.ref qc, .int mw, .int mf, .int (-1)])), (qc, .inl (cI, 149, .inl mc))] H := hP
  have hD : va_D A [(hm, .inr (1, [.ref qc, .int mw, .int mf, .int (-1)])), (qc, .inl (cI, 149, .inl mc))] := hD
  refine lv_aload_n hx hb d_M_write_12 rfl (lv_at hl 0 rfl) ?_
  refine lv_dup hx hb d_M_write_13 rfl ?_
  refine va_get (D := (dC, dI)) (ci := 1) (v := .int mf) (C := R_M) (T := F_M) (N := 4) hx hb hts inM hown hK hP 0 rfl rfl 2 (by decide) kf22 (fun _ h9 => h9) rfl d_M_write_14 ?_
  refine lv_iconst (v := 1) hx hb d_M_write_17 (by decide) ?_
  refine lv_iadd hx hb d_M_write_18 ?_
  refine va_put (D := (dC, dI)) (ci := 1) (v := .int (mf + 1)) (ty := .int) (C := R_M) (T := F_M) (N := 4) hx hb hts inM t_M t_M_ok n_M hown hK hP hD hS 0 rfl rfl 2 (by decide) kf22 (fun _ h9 => h9) rfl (by decide +kernel) rfl rfl (Nat.le_of_ble_eq_true rfl) d_M_write_19 (fun H locs hP hD hS => ?_)
  have hP : va_P (dC, dI) vwCl [(hm, .inr (1, [.ref qc, .int mw, .int (mf + 1), .int (-1)])), (qc, .inl (cI, 149, .inl mc))] H := hP
  have hD : va_D A [(hm, .inr (1, [.ref qc, .int mw, .int (mf + 1), .int (-1)])), (qc, .inl (cI, 149, .inl mc))] := hD
  refine lv_iconst (v := 0) hx hb d_M_write_22 (by decide) ?_
  obtain ⟨e1_, e2_, e3_, e4_, e5_⟩ := lf5 hf
  subst e1_; subst e2_; subst e3_; subst e4_; subst e5_
  have hP9 := hP.sub (ws' := [(hm, .inr (1, [.ref qc, .int mw, .int (mf + 1), .int (-1)])), (qc, .inl (cI, 149, .inl mc))]) [0, 1] rfl
  have hD9 := hD.sub (ws' := [(hm, .inr (1, [.ref qc, .int mw, .int (mf + 1), .int (-1)])), (qc, .inl (cI, 149, .inl mc))]) [0, 1] (by decide) rfl
  exact W.zret (v := 0) (ty := .boolean) hx hb hr rfl (fun t ht hW => ⟨⟨0, (), rfl, ⟨rfl, rfl⟩, by rw [ht]; exact hP9, va_K.moved hW.alike hK, hD9⟩, hS.F ht⟩) hS.2.2 d_M_write_23
theorem d_M_change_0 : decode b_M_change 0 = .ok (.bipush 108, 2) := by decide +kernel
theorem d_M_change_2 : decode b_M_change 2 = .ok (.iconst 2, 1) := by decide +kernel
theorem d_M_change_3 : decode b_M_change 3 = .ok (.aload_n 0, 1) := by decide +kernel
theorem d_M_change_4 : decode b_M_change 4 = .ok (.invokevirtual 25, 3) := by decide +kernel
theorem d_M_change_7 : decode b_M_change 7 = .ok (.imul, 1) := by decide +kernel
theorem d_M_change_8 : decode b_M_change 8 = .ok (.iadd, 1) := by decide +kernel
theorem d_M_change_9 : decode b_M_change 9 = .ok (.istore_n 3, 1) := by decide +kernel
theorem d_M_change_10 : decode b_M_change 10 = .ok (.aload_n 0, 1) := by decide +kernel
theorem d_M_change_11 : decode b_M_change 11 = .ok (.iload_n 3, 1) := by decide +kernel
theorem d_M_change_12 : decode b_M_change 12 = .ok (.iload_n 1, 1) := by decide +kernel
theorem d_M_change_13 : decode b_M_change 13 = .ok (.invokevirtual 29, 3) := by decide +kernel
theorem d_M_change_16 : decode b_M_change 16 = .ok (.ifCond .eq 48, 3) := by decide +kernel
theorem d_M_change_19 : decode b_M_change 19 = .ok (.aload_n 0, 1) := by decide +kernel
theorem d_M_change_20 : decode b_M_change 20 = .ok (.iload_n 3, 1) := by decide +kernel
theorem d_M_change_21 : decode b_M_change 21 = .ok (.iconst 1, 1) := by decide +kernel
theorem d_M_change_22 : decode b_M_change 22 = .ok (.iadd, 1) := by decide +kernel
theorem d_M_change_23 : decode b_M_change 23 = .ok (.aload_n 0, 1) := by decide +kernel
theorem d_M_change_24 : decode b_M_change 24 = .ok (.getfield 11, 3) := by decide +kernel
theorem d_M_change_27 : decode b_M_change 27 = .ok (.iload_n 1, 1) := by decide +kernel
theorem d_M_change_28 : decode b_M_change 28 = .ok (.iaload, 1) := by decide +kernel
theorem d_M_change_29 : decode b_M_change 29 = .ok (.invokevirtual 29, 3) := by decide +kernel
theorem d_M_change_32 : decode b_M_change 32 = .ok (.ifCond .eq 32, 3) := by decide +kernel
theorem d_M_change_35 : decode b_M_change 35 = .ok (.aload_n 0, 1) := by decide +kernel
theorem d_M_change_36 : decode b_M_change 36 = .ok (.sipush 148, 3) := by decide +kernel
theorem d_M_change_39 : decode b_M_change 39 = .ok (.aload_n 0, 1) := by decide +kernel
theorem d_M_change_40 : decode b_M_change 40 = .ok (.invokevirtual 25, 3) := by decide +kernel
theorem d_M_change_43 : decode b_M_change 43 = .ok (.iconst 1, 1) := by decide +kernel
theorem d_M_change_44 : decode b_M_change 44 = .ok (.iadd, 1) := by decide +kernel
theorem d_M_change_45 : decode b_M_change 45 = .ok (.invokevirtual 29, 3) := by decide +kernel
theorem d_M_change_48 : decode b_M_change 48 = .ok (.ifCond .eq 16, 3) := by decide +kernel
theorem d_M_change_51 : decode b_M_change 51 = .ok (.aload_n 0, 1) := by decide +kernel
theorem d_M_change_52 : decode b_M_change 52 = .ok (.iload_n 1, 1) := by decide +kernel
theorem d_M_change_53 : decode b_M_change 53 = .ok (.iload_n 2, 1) := by decide +kernel
theorem d_M_change_54 : decode b_M_change 54 = .ok (.invokevirtual 29, 3) := by decide +kernel
theorem d_M_change_57 : decode b_M_change 57 = .ok (.ifCond .eq 7, 3) := by decide +kernel
theorem d_M_change_60 : decode b_M_change 60 = .ok (.iconst 1, 1) := by decide +kernel
theorem d_M_change_61 : decode b_M_change 61 = .ok (.goto 4, 3) := by decide +kernel
theorem d_M_change_64 : decode b_M_change 64 = .ok (.iconst 0, 1) := by decide +kernel
theorem d_M_change_65 : decode b_M_change 65 = .ok (.ireturn, 1) := by decide +kernel
def fM_change (σ : StM) (a1 : Int32) (a2 : Int32) : Option (Int32 × StM) := match σ with | (mc, mw, mf, mz) => bd1 (fM_count (mc, mw, mf, mz)) fun r1 => bd5 (fM_write (mc, mw, mf, mz) (108 + (2 * r1)) a1) fun r2 mc2 mw2 mf2 mz2 => if r2 = 0 then (some (0, mc2, mw2, mf2, mz2)) else (ix a1 149 fun j4 => bd5 (fM_write (mc2, mw2, mf2, mz2) ((108 + (2 * r1)) + 1) (mc2 j4)) fun r5 mc5 mw5 mf5 mz5 => if r5 = 0 then (some (0, mc5, mw5, mf5, mz5)) else (bd1 (fM_count (mc5, mw5, mf5, mz5)) fun r7 => bd5 (fM_write (mc5, mw5, mf5, mz5) 148 (r7 + 1)) fun r8 mc8 mw8 mf8 mz8 => if r8 = 0 then (some (0, mc8, mw8, mf8, mz8)) else (bd5 (fM_write (mc8, mw8, mf8, mz8) a1 a2) fun r10 mc10 mw10 mf10 mz10 => if r10 = 0 then (some (0, mc10, mw10, mf10, mz10)) else (some (1, mc10, mw10, mf10, mz10)))))
set_option maxHeartbeats 4000000 in
set_option maxRecDepth 100000 in
theorem ctM_change (l : Launch) (dC : Nat → ClassId) (dI : Nat → Nat → Nat) (cI : ClassId) (hm qc : Nat) (mc : Nat → Int32) (mw : Int32) (mf : Int32) (mz : Int32) (a1 : Int32) (a2 : Int32) (r : Int32) (mc' : Nat → Int32) (mw' : Int32) (mf' : Int32) (mz' : Int32) (hf : fM_change (mc, mw, mf, mz) a1 a2 = some (r, mc', mw', mf', mz')) : CtZ l y_M_change w_M_change ({ frames := 1, cells := 0, slots := 0, locals := 22 }) (dC, dI) [(cI, .int)] [.ref hm, .int a1, .int a2] [(hm, .inr (1, [.ref qc, .int mw, .int mf, .int mz])), (qc, .inl (cI, 149, .inl mc))] [(hm, .inr (1, [.ref qc, .int mw', .int mf', .int mz'])), (qc, .inl (cI, 149, .inl mc'))] r := by
  intro sz
  refine Met.ofW (cc := b_M_change) (maxL := 4) (ret := some .boolean) (by decide) rfl ?_
  intro p e s m args below meth c s₁ B hml hv
  obtain ⟨rfl, hsz, hP, hK, hD0⟩ := hv
  have hx := B.exec
  have hb := B.bytes
  have hr := B.returns
  have hts := atoms_spec (ws := w_M_change) B.pre
  have hown : s.vm.findClass R_M = some m.cls := findClass_of_methodNamed B.named
  have hlocks := B.notSynchronized
  subst hsz
  have hD := hD0.self (sz := s.heap.size)
  generalize hAe : va_A [(hm, .inr (1, [.ref qc, .int mw, .int mf, .int mz])), (qc, .inl (cI, 149, .inl mc))] s.heap.size = A at hD ⊢
  have hA : ∀ q : Nat, s.heap.size ≤ q → A q := fun q h => by rw [← hAe]; exact Or.inr h
  have hS : va_S A s.heap s.heap [] := va_S.rf
  have hP : va_P (dC, dI) vwCl [(hm, .inr (1, [.ref qc, .int mw, .int mf, .int mz])), (qc, .inl (cI, 149, .inl mc))] s.heap := hP
  have hl := lv_entry ([.ref hm, .int a1, .int a2]) (n := 4) (Nat.le_of_ble_eq_true rfl)
  rw [lg_entry_eq]
  generalize (lg_sl ([.ref hm, .int a1, .int a2]) ++ List.replicate (4 - (lg_sl ([.ref hm, .int a1, .int a2])).length) Slot.unset).toArray = ls at hl ⊢
  have hl : lv_has ls 4 [(0, .ref hm), (1, .int a1), (2, .int a2)] := hl
  have inM : ∀ w ∈ u_ws R_M F_M 4, w ∈ w_M_change := fun w h => List.mem_cons_of_mem _ (in_M w h)
  have kf11 := hts _ (List.mem_cons_of_mem _ wq64)
  rw [fM_change] at hf
  refine lv_bipush (v := 108) hx hb d_M_change_0 (by decide) ?_
  refine lv_iconst (v := 2) hx hb d_M_change_2 (by decide) ?_
  refine lv_aload_n hx hb d_M_change_3 rfl (lv_at hl 0 rfl) ?_
  obtain ⟨r1, hg, hf⟩ := bd1_some hf
  refine xci (wr := []) (ctM_count l dC dI cI hm qc mc mw mf mz r1 hg) ⟨hx, hb, hml, hown, hts⟩ (cwV (C := R_M) 0 hts (gV wq210 wq211 wq212 wq44 wq213) rfl rfl rfl (by decide +kernel) ⟨Nat.le_of_ble_eq_true rfl, Nat.le_of_ble_eq_true rfl⟩) hK hP hD hS hA [0, 1] [] rfl rfl rfl rfl (by decide) (ci := 1) (q0 := 0) rfl rfl rfl rfl hl.1 rfl (Nat.le_of_ble_eq_true rfl) d_M_change_4 ⟨Nat.zero_le _, Nat.zero_le _⟩ (fun H locs hP hD hS => ?_)
  have hP : va_P (dC, dI) vwCl [(hm, .inr (1, [.ref qc, .int mw, .int mf, .int mz])), (qc, .inl (cI, 149, .inl mc))] H := hP
  have hD : va_D A [(hm, .inr (1, [.ref qc, .int mw, .int mf, .int mz])), (qc, .inl (cI, 149, .inl mc))] := hD
  refine lv_imul hx hb d_M_change_7 ?_
  refine lv_iadd hx hb d_M_change_8 ?_
  refine lv_istore_n hx hb d_M_change_9 rfl hl (by decide) rfl (fun ls hl => ?_)
  have hl : lv_has ls 4 [(3, .int (108 + (2 * r1))), (0, .ref hm), (1, .int a1), (2, .int a2)] := hl
  refine lv_aload_n hx hb d_M_change_10 rfl (lv_at hl 1 rfl) ?_
  refine lv_iload_n hx hb d_M_change_11 rfl (lv_at hl 0 rfl) ?_
  refine lv_iload_n hx hb d_M_change_12 rfl (lv_at hl 2 rfl) ?_
  obtain ⟨r2, mc2, mw2, mf2, mz2, hg, hf⟩ := bd5_some hf
  refine xcz (wr := []) (ctM_write l dC dI cI hm qc mc mw mf mz (108 + (2 * r1)) a1 r2 mc2 mw2 mf2 mz2 hg) ⟨hx, hb, hml, hown, hts⟩ (cwV (C := R_M) 2 hts (gV wq214 wq215 wq216 wq44 wq217) rfl rfl rfl (by decide +kernel) ⟨Nat.le_of_ble_eq_true rfl, Nat.le_of_ble_eq_true rfl⟩) hK hP hD hS hA [0, 1] [] rfl rfl rfl rfl (by decide) (ci := 1) (q0 := 0) rfl rfl rfl rfl hl.1 rfl (Nat.le_of_ble_eq_true rfl) d_M_change_13 ⟨Nat.zero_le _, Nat.zero_le _⟩ (fun H locs hn2 hP hD hS => ?_)
  have hP : va_P (dC, dI) vwCl [(hm, .inr (1, [.ref qc, .int mw2, .int mf2, .int mz2])), (qc, .inl (cI, 149, .inl mc2))] H := hP
  have hD : va_D A [(hm, .inr (1, [.ref qc, .int mw2, .int mf2, .int mz2])), (qc, .inl (cI, 149, .inl mc2))] := hD
  refine lv_if_eq (tgt := 64) hx hb d_M_change_16 rfl (fun hc3 => ?_) (fun hc3 => ?_)
  · have hf := ift hf hc3
    refine lv_iconst (v := 0) hx hb d_M_change_64 (by decide) ?_
    obtain ⟨e1_, e2_, e3_, e4_, e5_⟩ := lf5 hf
    subst e1_; subst e2_; subst e3_; subst e4_; subst e5_
    have hP9 := hP.sub (ws' := [(hm, .inr (1, [.ref qc, .int mw2, .int mf2, .int mz2])), (qc, .inl (cI, 149, .inl mc2))]) [0, 1] rfl
    have hD9 := hD.sub (ws' := [(hm, .inr (1, [.ref qc, .int mw2, .int mf2, .int mz2])), (qc, .inl (cI, 149, .inl mc2))]) [0, 1] (by decide) rfl
    exact W.zret (v := 0) (ty := .boolean) hx hb hr rfl (fun t ht hW => ⟨⟨0, (), rfl, ⟨rfl, rfl⟩, by rw [ht]; exact hP9, va_K.moved hW.alike hK, hD9⟩, hS.F ht⟩) hS.2.2 d_M_change_65
  have hf := ifn hf hc3
  refine lv_aload_n hx hb d_M_change_19 rfl (lv_at hl 1 rfl) ?_
  refine lv_iload_n hx hb d_M_change_20 rfl (lv_at hl 0 rfl) ?_
  refine lv_iconst (v := 1) hx hb d_M_change_21 (by decide) ?_
  refine lv_iadd hx hb d_M_change_22 ?_
  refine lv_aload_n hx hb d_M_change_23 rfl (lv_at hl 1 rfl) ?_
  refine va_get (D := (dC, dI)) (ci := 1) (v := .ref qc) (C := R_M) (T := F_M) (N := 4) hx hb hts inM hown hK hP 0 rfl rfl 0 (by decide) kf11 (fun _ h9 => h9) rfl d_M_change_24 ?_
  refine lv_iload_n hx hb d_M_change_27 rfl (lv_at hl 2 rfl) ?_
  obtain ⟨hin_, hf⟩ := ix_some hf
  refine va_iald hx hb hK hP 1 0 rfl rfl hin_ d_M_change_28 ?_
  obtain ⟨r5, mc5, mw5, mf5, mz5, hg, hf⟩ := bd5_some hf
  refine xcz (wr := []) (ctM_write l dC dI cI hm qc mc2 mw2 mf2 mz2 ((108 + (2 * r1)) + 1) (mc2 (a1 : Int32).toNatClampNeg) r5 mc5 mw5 mf5 mz5 hg) ⟨hx, hb, hml, hown, hts⟩ (cwV (C := R_M) 2 hts (gV wq214 wq215 wq216 wq44 wq217) rfl rfl rfl (by decide +kernel) ⟨Nat.le_of_ble_eq_true rfl, Nat.le_of_ble_eq_true rfl⟩) hK hP hD hS hA [0, 1] [] rfl rfl rfl rfl (by decide) (ci := 1) (q0 := 0) rfl rfl rfl rfl hl.1 rfl (Nat.le_of_ble_eq_true rfl) d_M_change_29 ⟨Nat.zero_le _, Nat.zero_le _⟩ (fun H locs hn5 hP hD hS => ?_)
  have hP : va_P (dC, dI) vwCl [(hm, .inr (1, [.ref qc, .int mw5, .int mf5, .int mz5])), (qc, .inl (cI, 149, .inl mc5))] H := hP
  have hD : va_D A [(hm, .inr (1, [.ref qc, .int mw5, .int mf5, .int mz5])), (qc, .inl (cI, 149, .inl mc5))] := hD
  refine lv_if_eq (tgt := 64) hx hb d_M_change_32 rfl (fun hc6 => ?_) (fun hc6 => ?_)
  · have hf := ift hf hc6
    refine lv_iconst (v := 0) hx hb d_M_change_64 (by decide) ?_
    obtain ⟨e1_, e2_, e3_, e4_, e5_⟩ := lf5 hf
    subst e1_; subst e2_; subst e3_; subst e4_; subst e5_
    have hP9 := hP.sub (ws' := [(hm, .inr (1, [.ref qc, .int mw5, .int mf5, .int mz5])), (qc, .inl (cI, 149, .inl mc5))]) [0, 1] rfl
    have hD9 := hD.sub (ws' := [(hm, .inr (1, [.ref qc, .int mw5, .int mf5, .int mz5])), (qc, .inl (cI, 149, .inl mc5))]) [0, 1] (by decide) rfl
    exact W.zret (v := 0) (ty := .boolean) hx hb hr rfl (fun t ht hW => ⟨⟨0, (), rfl, ⟨rfl, rfl⟩, by rw [ht]; exact hP9, va_K.moved hW.alike hK, hD9⟩, hS.F ht⟩) hS.2.2 d_M_change_65
  have hf := ifn hf hc6
  refine lv_aload_n hx hb d_M_change_35 rfl (lv_at hl 1 rfl) ?_
  refine lv_sipush (v := 148) hx hb d_M_change_36 (by decide) ?_
  refine lv_aload_n hx hb d_M_change_39 rfl (lv_at hl 1 rfl) ?_
  obtain ⟨r7, hg, hf⟩ := bd1_some hf
  refine xci (wr := []) (ctM_count l dC dI cI hm qc mc5 mw5 mf5 mz5 r7 hg) ⟨hx, hb, hml, hown, hts⟩ (cwV (C := R_M) 0 hts (gV wq210 wq211 wq212 wq44 wq213) rfl rfl rfl (by decide +kernel) ⟨Nat.le_of_ble_eq_true rfl, Nat.le_of_ble_eq_true rfl⟩) hK hP hD hS hA [0, 1] [] rfl rfl rfl rfl (by decide) (ci := 1) (q0 := 0) rfl rfl rfl rfl hl.1 rfl (Nat.le_of_ble_eq_true rfl) d_M_change_40 ⟨Nat.zero_le _, Nat.zero_le _⟩ (fun H locs hP hD hS => ?_)
  have hP : va_P (dC, dI) vwCl [(hm, .inr (1, [.ref qc, .int mw5, .int mf5, .int mz5])), (qc, .inl (cI, 149, .inl mc5))] H := hP
  have hD : va_D A [(hm, .inr (1, [.ref qc, .int mw5, .int mf5, .int mz5])), (qc, .inl (cI, 149, .inl mc5))] := hD
  refine lv_iconst (v := 1) hx hb d_M_change_43 (by decide) ?_
  refine lv_iadd hx hb d_M_change_44 ?_
  obtain ⟨r8, mc8, mw8, mf8, mz8, hg, hf⟩ := bd5_some hf
  refine xcz (wr := []) (ctM_write l dC dI cI hm qc mc5 mw5 mf5 mz5 148 (r7 + 1) r8 mc8 mw8 mf8 mz8 hg) ⟨hx, hb, hml, hown, hts⟩ (cwV (C := R_M) 2 hts (gV wq214 wq215 wq216 wq44 wq217) rfl rfl rfl (by decide +kernel) ⟨Nat.le_of_ble_eq_true rfl, Nat.le_of_ble_eq_true rfl⟩) hK hP hD hS hA [0, 1] [] rfl rfl rfl rfl (by decide) (ci := 1) (q0 := 0) rfl rfl rfl rfl hl.1 rfl (Nat.le_of_ble_eq_true rfl) d_M_change_45 ⟨Nat.zero_le _, Nat.zero_le _⟩ (fun H locs hn8 hP hD hS => ?_)
  have hP : va_P (dC, dI) vwCl [(hm, .inr (1, [.ref qc, .int mw8, .int mf8, .int mz8])), (qc, .inl (cI, 149, .inl mc8))] H := hP
  have hD : va_D A [(hm, .inr (1, [.ref qc, .int mw8, .int mf8, .int mz8])), (qc, .inl (cI, 149, .inl mc8))] := hD
  refine lv_if_eq (tgt := 64) hx hb d_M_change_48 rfl (fun hc9 => ?_) (fun hc9 => ?_)
  · have hf := ift hf hc9
    refine lv_iconst (v := 0) hx hb d_M_change_64 (by decide) ?_
    obtain ⟨e1_, e2_, e3_, e4_, e5_⟩ := lf5 hf
    subst e1_; subst e2_; subst e3_; subst e4_; subst e5_
    have hP9 := hP.sub (ws' := [(hm, .inr (1, [.ref qc, .int mw8, .int mf8, .int mz8])), (qc, .inl (cI, 149, .inl mc8))]) [0, 1] rfl
    have hD9 := hD.sub (ws' := [(hm, .inr (1, [.ref qc, .int mw8, .int mf8, .int mz8])), (qc, .inl (cI, 149, .inl mc8))]) [0, 1] (by decide) rfl
    exact W.zret (v := 0) (ty := .boolean) hx hb hr rfl (fun t ht hW => ⟨⟨0, (), rfl, ⟨rfl, rfl⟩, by rw [ht]; exact hP9, va_K.moved hW.alike hK, hD9⟩, hS.F ht⟩) hS.2.2 d_M_change_65
  have hf := ifn hf hc9
  refine lv_aload_n hx hb d_M_change_51 rfl (lv_at hl 1 rfl) ?_
  refine lv_iload_n hx hb d_M_change_52 rfl (lv_at hl 2 rfl) ?_
  refine lv_iload_n hx hb d_M_change_53 rfl (lv_at hl 3 rfl) ?_
  obtain ⟨r10, mc10, mw10, mf10, mz10, hg, hf⟩ := bd5_some hf
  refine xcz (wr := []) (ctM_write l dC dI cI hm qc mc8 mw8 mf8 mz8 a1 a2 r10 mc10 mw10 mf10 mz10 hg) ⟨hx, hb, hml, hown, hts⟩ (cwV (C := R_M) 2 hts (gV wq214 wq215 wq216 wq44 wq217) rfl rfl rfl (by decide +kernel) ⟨Nat.le_of_ble_eq_true rfl, Nat.le_of_ble_eq_true rfl⟩) hK hP hD hS hA [0, 1] [] rfl rfl rfl rfl (by decide) (ci := 1) (q0 := 0) rfl rfl rfl rfl hl.1 rfl (Nat.le_of_ble_eq_true rfl) d_M_change_54 ⟨Nat.zero_le _, Nat.zero_le _⟩ (fun H locs hn10 hP hD hS => ?_)
  have hP : va_P (dC, dI) vwCl [(hm, .inr (1, [.ref qc, .int mw10, .int mf10, .int mz10])), (qc, .inl (cI, 149, .inl mc10))] H := hP
  have hD : va_D A [(hm, .inr (1, [.ref qc, .int mw10, .int mf10, .int mz10])), (qc, .inl (cI, 149, .inl mc10))] := hD
  refine lv_if_eq (tgt := 64) hx hb d_M_change_57 rfl (fun hc11 => ?_) (fun hc11 => ?_)
  · have hf := ift hf hc11
    refine lv_iconst (v := 0) hx hb d_M_change_64 (by decide) ?_
    obtain ⟨e1_, e2_, e3_, e4_, e5_⟩ := lf5 hf
    subst e1_; subst e2_; subst e3_; subst e4_; subst e5_
    have hP9 := hP.sub (ws' := [(hm, .inr (1, [.ref qc, .int mw10, .int mf10, .int mz10])), (qc, .inl (cI, 149, .inl mc10))]) [0, 1] rfl
    have hD9 := hD.sub (ws' := [(hm, .inr (1, [.ref qc, .int mw10, .int mf10, .int mz10])), (qc, .inl (cI, 149, .inl mc10))]) [0, 1] (by decide) rfl
    exact W.zret (v := 0) (ty := .boolean) hx hb hr rfl (fun t ht hW => ⟨⟨0, (), rfl, ⟨rfl, rfl⟩, by rw [ht]; exact hP9, va_K.moved hW.alike hK, hD9⟩, hS.F ht⟩) hS.2.2 d_M_change_65
  have hf := ifn hf hc11
  refine lv_iconst (v := 1) hx hb d_M_change_60 (by decide) ?_
  refine lv_goto (tgt := 65) hx hb d_M_change_61 rfl ?_
  obtain ⟨e1_, e2_, e3_, e4_, e5_⟩ := lf5 hf
  subst e1_; subst e2_; subst e3_; subst e4_; subst e5_
  have hP9 := hP.sub (ws' := [(hm, .inr (1, [.ref qc, .int mw10, .int mf10, .int mz10])), (qc, .inl (cI, 149, .inl mc10))]) [0, 1] rfl
  have hD9 := hD.sub (ws' := [(hm, .inr (1, [.ref qc, .int mw10, .int mf10, .int mz10])), (qc, .inl (cI, 149, .inl mc10))]) [0, 1] (by decide) rfl
  exact W.zret (v := 1) (ty := .boolean) hx hb hr rfl (fun t ht hW => ⟨⟨1, (), rfl, ⟨rfl, rfl⟩, by rw [ht]; exact hP9, va_K.moved hW.alike hK, hD9⟩, hS.F ht⟩) hS.2.2 d_M_change_65
theorem d_M_settle_0 : decode b_M_settle 0 = .ok (.aload_n 0, 1) := by decide +kernel
theorem d_M_settle_1 : decode b_M_settle 1 = .ok (.invokevirtual 25, 3) := by decide +kernel
theorem d_M_settle_4 : decode b_M_settle 4 = .ok (.ifCond .eq 14, 3) := by decide +kernel
theorem d_M_settle_7 : decode b_M_settle 7 = .ok (.aload_n 0, 1) := by decide +kernel
theorem d_M_settle_8 : decode b_M_settle 8 = .ok (.sipush 148, 3) := by decide +kernel
theorem d_M_settle_11 : decode b_M_settle 11 = .ok (.iconst 0, 1) := by decide +kernel
theorem d_M_settle_12 : decode b_M_settle 12 = .ok (.invokevirtual 29, 3) := by decide +kernel
theorem d_M_settle_15 : decode b_M_settle 15 = .ok (.ifCond .eq 7, 3) := by decide +kernel
theorem d_M_settle_18 : decode b_M_settle 18 = .ok (.iconst 1, 1) := by decide +kernel
theorem d_M_settle_19 : decode b_M_settle 19 = .ok (.goto 4, 3) := by decide +kernel
theorem d_M_settle_22 : decode b_M_settle 22 = .ok (.iconst 0, 1) := by decide +kernel
theorem d_M_settle_23 : decode b_M_settle 23 = .ok (.ireturn, 1) := by decide +kernel
def fM_settle (σ : StM) : Option (Int32 × StM) := match σ with | (mc, mw, mf, mz) => bd1 (fM_count (mc, mw, mf, mz)) fun r1 => if r1 = 0 then (some (1, mc, mw, mf, mz)) else (bd5 (fM_write (mc, mw, mf, mz) 148 0) fun r3 mc3 mw3 mf3 mz3 => if r3 = 0 then (some (0, mc3, mw3, mf3, mz3)) else (some (1, mc3, mw3, mf3, mz3)))
set_option maxHeartbeats 4000000 in
set_option maxRecDepth 100000 in
theorem ctM_settle (l : Launch) (dC : Nat → ClassId) (dI : Nat → Nat → Nat) (cI : ClassId) (hm qc : Nat) (mc : Nat → Int32) (mw : Int32) (mf : Int32) (mz : Int32) (r : Int32) (mc' : Nat → Int32) (mw' : Int32) (mf' : Int32) (mz' : Int32) (hf : fM_settle (mc, mw, mf, mz) = some (r, mc', mw', mf', mz')) : CtZ l y_M_settle w_M_settle ({ frames := 1, cells := 0, slots := 0, locals := 22 }) (dC, dI) [(cI, .int)] [.ref hm] [(hm, .inr (1, [.ref qc, .int mw, .int mf, .int mz])), (qc, .inl (cI, 149, .inl mc))] [(hm, .inr (1, [.ref qc, .int mw', .int mf', .int mz'])), (qc, .inl (cI, 149, .inl mc'))] r := by
  intro sz
  refine Met.ofW (cc := b_M_settle) (maxL := 1) (ret := some .boolean) (by decide) rfl ?_
  intro p e s m args below meth c s₁ B hml hv
  obtain ⟨rfl, hsz, hP, hK, hD0⟩ := hv
  have hx := B.exec
  have hb := B.bytes
  have hr := B.returns
  have hts := atoms_spec (ws := w_M_settle) B.pre
  have hown : s.vm.findClass R_M = some m.cls := findClass_of_methodNamed B.named
  have hlocks := B.notSynchronized
  subst hsz
  have hD := hD0.self (sz := s.heap.size)
  generalize hAe : va_A [(hm, .inr (1, [.ref qc, .int mw, .int mf, .int mz])), (qc, .inl (cI, 149, .inl mc))] s.heap.size = A at hD ⊢
  have hA : ∀ q : Nat, s.heap.size ≤ q → A q := fun q h => by rw [← hAe]; exact Or.inr h
  have hS : va_S A s.heap s.heap [] := va_S.rf
  have hP : va_P (dC, dI) vwCl [(hm, .inr (1, [.ref qc, .int mw, .int mf, .int mz])), (qc, .inl (cI, 149, .inl mc))] s.heap := hP
  have hl := lv_entry ([.ref hm]) (n := 1) (Nat.le_of_ble_eq_true rfl)
  rw [lg_entry_eq]
  generalize (lg_sl ([.ref hm]) ++ List.replicate (1 - (lg_sl ([.ref hm])).length) Slot.unset).toArray = ls at hl ⊢
  have hl : lv_has ls 1 [(0, .ref hm)] := hl
  rw [fM_settle] at hf
  refine lv_aload_n hx hb d_M_settle_0 rfl (lv_at hl 0 rfl) ?_
  obtain ⟨r1, hg, hf⟩ := bd1_some hf
  refine xci (wr := []) (ctM_count l dC dI cI hm qc mc mw mf mz r1 hg) ⟨hx, hb, hml, hown, hts⟩ (cwV (C := R_M) 0 hts (gV wq210 wq211 wq212 wq44 wq213) rfl rfl rfl (by decide +kernel) ⟨Nat.le_of_ble_eq_true rfl, Nat.le_of_ble_eq_true rfl⟩) hK hP hD hS hA [0, 1] [] rfl rfl rfl rfl (by decide) (ci := 1) (q0 := 0) rfl rfl rfl rfl hl.1 rfl (Nat.le_of_ble_eq_true rfl) d_M_settle_1 ⟨Nat.zero_le _, Nat.zero_le _⟩ (fun H locs hP hD hS => ?_)
  have hP : va_P (dC, dI) vwCl [(hm, .inr (1, [.ref qc, .int mw, .int mf, .int mz])), (qc, .inl (cI, 149, .inl mc))] H := hP
  have hD : va_D A [(hm, .inr (1, [.ref qc, .int mw, .int mf, .int mz])), (qc, .inl (cI, 149, .inl mc))] := hD
  refine lv_if_eq (tgt := 18) hx hb d_M_settle_4 rfl (fun hc2 => ?_) (fun hc2 => ?_)
  · have hf := ift hf hc2
    refine lv_iconst (v := 1) hx hb d_M_settle_18 (by decide) ?_
    refine lv_goto (tgt := 23) hx hb d_M_settle_19 rfl ?_
    obtain ⟨e1_, e2_, e3_, e4_, e5_⟩ := lf5 hf
    subst e1_; subst e2_; subst e3_; subst e4_; subst e5_
    have hP9 := hP.sub (ws' := [(hm, .inr (1, [.ref qc, .int mw, .int mf, .int mz])), (qc, .inl (cI, 149, .inl mc))]) [0, 1] rfl
    have hD9 := hD.sub (ws' := [(hm, .inr (1, [.ref qc, .int mw, .int mf, .int mz])), (qc, .inl (cI, 149, .inl mc))]) [0, 1] (by decide) rfl
    exact W.zret (v := 1) (ty := .boolean) hx hb hr rfl (fun t ht hW => ⟨⟨1, (), rfl, ⟨rfl, rfl⟩, by rw [ht]; exact hP9, va_K.moved hW.alike hK, hD9⟩, hS.F ht⟩) hS.2.2 d_M_settle_23
  have hf := ifn hf hc2
  refine lv_aload_n hx hb d_M_settle_7 rfl (lv_at hl 0 rfl) ?_
  refine lv_sipush (v := 148) hx hb d_M_settle_8 (by decide) ?_
  refine lv_iconst (v := 0) hx hb d_M_settle_11 (by decide) ?_
  obtain ⟨r3, mc3, mw3, mf3, mz3, hg, hf⟩ := bd5_some hf
  refine xcz (wr := []) (ctM_write l dC dI cI hm qc mc mw mf mz 148 0 r3 mc3 mw3 mf3 mz3 hg) ⟨hx, hb, hml, hown, hts⟩ (cwV (C := R_M) 2 hts (gV wq214 wq215 wq216 wq44 wq217) rfl rfl rfl (by decide +kernel) ⟨Nat.le_of_ble_eq_true rfl, Nat.le_of_ble_eq_true rfl⟩) hK hP hD hS hA [0, 1] [] rfl rfl rfl rfl (by decide) (ci := 1) (q0 := 0) rfl rfl rfl rfl hl.1 rfl (Nat.le_of_ble_eq_true rfl) d_M_settle_12 ⟨Nat.zero_le _, Nat.zero_le _⟩ (fun H locs hn3 hP hD hS => ?_)
  have hP : va_P (dC, dI) vwCl [(hm, .inr (1, [.ref qc, .int mw3, .int mf3, .int mz3])), (qc, .inl (cI, 149, .inl mc3))] H := hP
  have hD : va_D A [(hm, .inr (1, [.ref qc, .int mw3, .int mf3, .int mz3])), (qc, .inl (cI, 149, .inl mc3))] := hD
  refine lv_if_eq (tgt := 22) hx hb d_M_settle_15 rfl (fun hc4 => ?_) (fun hc4 => ?_)
  · have hf := ift hf hc4
    refine lv_iconst (v := 0) hx hb d_M_settle_22 (by decide) ?_
    obtain ⟨e1_, e2_, e3_, e4_, e5_⟩ := lf5 hf
    subst e1_; subst e2_; subst e3_; subst e4_; subst e5_
    have hP9 := hP.sub (ws' := [(hm, .inr (1, [.ref qc, .int mw3, .int mf3, .int mz3])), (qc, .inl (cI, 149, .inl mc3))]) [0, 1] rfl
    have hD9 := hD.sub (ws' := [(hm, .inr (1, [.ref qc, .int mw3, .int mf3, .int mz3])), (qc, .inl (cI, 149, .inl mc3))]) [0, 1] (by decide) rfl
    exact W.zret (v := 0) (ty := .boolean) hx hb hr rfl (fun t ht hW => ⟨⟨0, (), rfl, ⟨rfl, rfl⟩, by rw [ht]; exact hP9, va_K.moved hW.alike hK, hD9⟩, hS.F ht⟩) hS.2.2 d_M_settle_23
  have hf := ifn hf hc4
  refine lv_iconst (v := 1) hx hb d_M_settle_18 (by decide) ?_
  refine lv_goto (tgt := 23) hx hb d_M_settle_19 rfl ?_
  obtain ⟨e1_, e2_, e3_, e4_, e5_⟩ := lf5 hf
  subst e1_; subst e2_; subst e3_; subst e4_; subst e5_
  have hP9 := hP.sub (ws' := [(hm, .inr (1, [.ref qc, .int mw3, .int mf3, .int mz3])), (qc, .inl (cI, 149, .inl mc3))]) [0, 1] rfl
  have hD9 := hD.sub (ws' := [(hm, .inr (1, [.ref qc, .int mw3, .int mf3, .int mz3])), (qc, .inl (cI, 149, .inl mc3))]) [0, 1] (by decide) rfl
  exact W.zret (v := 1) (ty := .boolean) hx hb hr rfl (fun t ht hW => ⟨⟨1, (), rfl, ⟨rfl, rfl⟩, by rw [ht]; exact hP9, va_K.moved hW.alike hK, hD9⟩, hS.F ht⟩) hS.2.2 d_M_settle_23
theorem d_M_undo_0 : decode b_M_undo 0 = .ok (.aload_n 0, 1) := by decide +kernel
theorem d_M_undo_1 : decode b_M_undo 1 = .ok (.invokevirtual 25, 3) := by decide +kernel
theorem d_M_undo_4 : decode b_M_undo 4 = .ok (.iconst 1, 1) := by decide +kernel
theorem d_M_undo_5 : decode b_M_undo 5 = .ok (.isub, 1) := by decide +kernel
theorem d_M_undo_6 : decode b_M_undo 6 = .ok (.istore_n 1, 1) := by decide +kernel
theorem d_M_undo_7 : decode b_M_undo 7 = .ok (.iload_n 1, 1) := by decide +kernel
theorem d_M_undo_8 : decode b_M_undo 8 = .ok (.ifCond .lt 39, 3) := by decide +kernel
theorem d_M_undo_11 : decode b_M_undo 11 = .ok (.bipush 108, 2) := by decide +kernel
theorem d_M_undo_13 : decode b_M_undo 13 = .ok (.iconst 2, 1) := by decide +kernel
theorem d_M_undo_14 : decode b_M_undo 14 = .ok (.iload_n 1, 1) := by decide +kernel
theorem d_M_undo_15 : decode b_M_undo 15 = .ok (.imul, 1) := by decide +kernel
theorem d_M_undo_16 : decode b_M_undo 16 = .ok (.iadd, 1) := by decide +kernel
theorem d_M_undo_17 : decode b_M_undo 17 = .ok (.istore_n 2, 1) := by decide +kernel
theorem d_M_undo_18 : decode b_M_undo 18 = .ok (.aload_n 0, 1) := by decide +kernel
theorem d_M_undo_19 : decode b_M_undo 19 = .ok (.aload_n 0, 1) := by decide +kernel
theorem d_M_undo_20 : decode b_M_undo 20 = .ok (.getfield 11, 3) := by decide +kernel
theorem d_M_undo_23 : decode b_M_undo 23 = .ok (.iload_n 2, 1) := by decide +kernel
theorem d_M_undo_24 : decode b_M_undo 24 = .ok (.iaload, 1) := by decide +kernel
theorem d_M_undo_25 : decode b_M_undo 25 = .ok (.aload_n 0, 1) := by decide +kernel
theorem d_M_undo_26 : decode b_M_undo 26 = .ok (.getfield 11, 3) := by decide +kernel
theorem d_M_undo_29 : decode b_M_undo 29 = .ok (.iload_n 2, 1) := by decide +kernel
theorem d_M_undo_30 : decode b_M_undo 30 = .ok (.iconst 1, 1) := by decide +kernel
theorem d_M_undo_31 : decode b_M_undo 31 = .ok (.iadd, 1) := by decide +kernel
theorem d_M_undo_32 : decode b_M_undo 32 = .ok (.iaload, 1) := by decide +kernel
theorem d_M_undo_33 : decode b_M_undo 33 = .ok (.invokevirtual 29, 3) := by decide +kernel
theorem d_M_undo_36 : decode b_M_undo 36 = .ok (.ifCond .ne 5, 3) := by decide +kernel
theorem d_M_undo_39 : decode b_M_undo 39 = .ok (.iconst 0, 1) := by decide +kernel
theorem d_M_undo_40 : decode b_M_undo 40 = .ok (.ireturn, 1) := by decide +kernel
theorem d_M_undo_41 : decode b_M_undo 41 = .ok (.iinc 1 (-1), 3) := by decide +kernel
theorem d_M_undo_44 : decode b_M_undo 44 = .ok (.goto (-37), 3) := by decide +kernel
theorem d_M_undo_47 : decode b_M_undo 47 = .ok (.aload_n 0, 1) := by decide +kernel
theorem d_M_undo_48 : decode b_M_undo 48 = .ok (.invokevirtual 33, 3) := by decide +kernel
theorem d_M_undo_51 : decode b_M_undo 51 = .ok (.ireturn, 1) := by decide +kernel
def fM_undo_L7 : Nat → StM → Int32 → Option (Int32 × StM)
  | 0, _, _ => none
  | n + 1, (mc, mw, mf, mz), v1 => if v1 < 0 then (bd5 (fM_settle (mc, mw, mf, mz)) fun r3 mc3 mw3 mf3 mz3 => some (r3, mc3, mw3, mf3, mz3)) else (ix (108 + (2 * v1)) 149 fun j4 => ix ((108 + (2 * v1)) + 1) 149 fun j5 => bd5 (fM_write (mc, mw, mf, mz) (mc j4) (mc j5)) fun r6 mc6 mw6 mf6 mz6 => if r6 = 0 then (some (0, mc6, mw6, mf6, mz6)) else (fM_undo_L7 n (mc6, mw6, mf6, mz6) (v1 + (-1))))
def fM_undo (σ : StM) : Option (Int32 × StM) := match σ with | (mc, mw, mf, mz) => bd1 (fM_count (mc, mw, mf, mz)) fun r1 => fM_undo_L7 300 (mc, mw, mf, mz) (r1 - 1)
set_option maxHeartbeats 4000000 in
set_option maxRecDepth 100000 in
theorem ctM_undo (l : Launch) (dC : Nat → ClassId) (dI : Nat → Nat → Nat) (cI : ClassId) (hm qc : Nat) (mc : Nat → Int32) (mw : Int32) (mf : Int32) (mz : Int32) (r : Int32) (mc' : Nat → Int32) (mw' : Int32) (mf' : Int32) (mz' : Int32) (hf : fM_undo (mc, mw, mf, mz) = some (r, mc', mw', mf', mz')) : CtZ l y_M_undo w_M_undo ({ frames := 2, cells := 0, slots := 0, locals := 42 }) (dC, dI) [(cI, .int)] [.ref hm] [(hm, .inr (1, [.ref qc, .int mw, .int mf, .int mz])), (qc, .inl (cI, 149, .inl mc))] [(hm, .inr (1, [.ref qc, .int mw', .int mf', .int mz'])), (qc, .inl (cI, 149, .inl mc'))] r := by
  intro sz
  refine Met.ofW (cc := b_M_undo) (maxL := 3) (ret := some .boolean) (by decide) rfl ?_
  intro p e s m args below meth c s₁ B hml hv
  obtain ⟨rfl, hsz, hP, hK, hD0⟩ := hv
  have hx := B.exec
  have hb := B.bytes
  have hr := B.returns
  have hts := atoms_spec (ws := w_M_undo) B.pre
  have hown : s.vm.findClass R_M = some m.cls := findClass_of_methodNamed B.named
  have hlocks := B.notSynchronized
  subst hsz
  have hD := hD0.self (sz := s.heap.size)
  generalize hAe : va_A [(hm, .inr (1, [.ref qc, .int mw, .int mf, .int mz])), (qc, .inl (cI, 149, .inl mc))] s.heap.size = A at hD ⊢
  have hA : ∀ q : Nat, s.heap.size ≤ q → A q := fun q h => by rw [← hAe]; exact Or.inr h
  have hS : va_S A s.heap s.heap [] := va_S.rf
  have hP : va_P (dC, dI) vwCl [(hm, .inr (1, [.ref qc, .int mw, .int mf, .int mz])), (qc, .inl (cI, 149, .inl mc))] s.heap := hP
  have hl := lv_entry ([.ref hm]) (n := 3) (Nat.le_of_ble_eq_true rfl)
  rw [lg_entry_eq]
  generalize (lg_sl ([.ref hm]) ++ List.replicate (3 - (lg_sl ([.ref hm])).length) Slot.unset).toArray = ls at hl ⊢
  have hl : lv_has ls 3 [(0, .ref hm)] := hl
  have inM : ∀ w ∈ u_ws R_M F_M 4, w ∈ w_M_undo := fun w h => List.mem_cons_of_mem _ (in_M w h)
  have kf11 := hts _ (List.mem_cons_of_mem _ wq64)
  rw [fM_undo] at hf
  refine lv_aload_n hx hb d_M_undo_0 rfl (lv_at hl 0 rfl) ?_
  obtain ⟨r1, hg, hf⟩ := bd1_some hf
  refine xci (wr := []) (ctM_count l dC dI cI hm qc mc mw mf mz r1 hg) ⟨hx, hb, hml, hown, hts⟩ (cwV (C := R_M) 0 hts (gV wq210 wq211 wq212 wq44 wq213) rfl rfl rfl (by decide +kernel) ⟨Nat.le_of_ble_eq_true rfl, Nat.le_of_ble_eq_true rfl⟩) hK hP hD hS hA [0, 1] [] rfl rfl rfl rfl (by decide) (ci := 1) (q0 := 0) rfl rfl rfl rfl hl.1 rfl (Nat.le_of_ble_eq_true rfl) d_M_undo_1 ⟨Nat.zero_le _, Nat.zero_le _⟩ (fun H locs hP hD hS => ?_)
  have hP : va_P (dC, dI) vwCl [(hm, .inr (1, [.ref qc, .int mw, .int mf, .int mz])), (qc, .inl (cI, 149, .inl mc))] H := hP
  have hD : va_D A [(hm, .inr (1, [.ref qc, .int mw, .int mf, .int mz])), (qc, .inl (cI, 149, .inl mc))] := hD
  refine lv_iconst (v := 1) hx hb d_M_undo_4 (by decide) ?_
  refine lv_isub hx hb d_M_undo_5 ?_
  refine lv_istore_n hx hb d_M_undo_6 rfl hl (by decide) rfl (fun ls hl => ?_)
  have hl : lv_has ls 3 [(1, .int (r1 - 1)), (0, .ref hm)] := hl
  have hl := lv_sub (l' := [(0, .ref hm), (1, .int (r1 - 1))]) hl [1, 0] rfl
  refine xloop (σ := (Nat → Int32) × (Int32) × (Int32) × (Int32) × (Int32)) (pc := 7) (fun n x H locs ls => va_P (dC, dI) vwCl [(hm, .inr (1, [.ref qc, .int (x.2.1), .int (x.2.2.1), .int (x.2.2.2.1)])), (qc, .inl (cI, 149, .inl (x.1)))] H ∧ va_D A [(hm, .inr (1, [.ref qc, .int (x.2.1), .int (x.2.2.1), .int (x.2.2.2.1)])), (qc, .inl (cI, 149, .inl (x.1)))] ∧ va_S A s.heap H locs ∧ lv_has ls 3 [(0, .ref hm), (1, .int (x.2.2.2.2))] ∧ fM_undo_L7 n (x.1, x.2.1, x.2.2.1, x.2.2.2.1) x.2.2.2.2 = some (r, mc', mw', mf', mz')) ?_ (fun x H locs ls h => by have h9 := h.2.2.2.2; rw [fM_undo_L7] at h9; cases h9) 300 (mc, mw, mf, mz, r1 - 1) _ _ ls ⟨hP, hD, hS, hl, hf⟩
  intro n ih x H locs ls hI
  obtain ⟨mc, mw, mf, mz, v1⟩ := x
  obtain ⟨hP, hD, hS, hl, hf⟩ := hI
  have hP : va_P (dC, dI) vwCl [(hm, .inr (1, [.ref qc, .int mw, .int mf, .int mz])), (qc, .inl (cI, 149, .inl mc))] H := hP
  have hD : va_D A [(hm, .inr (1, [.ref qc, .int mw, .int mf, .int mz])), (qc, .inl (cI, 149, .inl mc))] := hD
  have hl : lv_has ls 3 [(0, .ref hm), (1, .int v1)] := hl
  rw [fM_undo_L7] at hf
  refine lv_iload_n hx hb d_M_undo_7 rfl (lv_at hl 1 rfl) ?_
  refine lv_if_lt (tgt := 47) hx hb d_M_undo_8 rfl (fun hc2 => ?_) (fun hc2 => ?_)
  · have hf := ift hf hc2
    refine lv_aload_n hx hb d_M_undo_47 rfl (lv_at hl 0 rfl) ?_
    obtain ⟨r3, mc3, mw3, mf3, mz3, hg, hf⟩ := bd5_some hf
    refine xcz (wr := []) (ctM_settle l dC dI cI hm qc mc mw mf mz r3 mc3 mw3 mf3 mz3 hg) ⟨hx, hb, hml, hown, hts⟩ (cwV (C := R_M) 0 hts (gV wq218 wq219 wq220 wq44 wq221) rfl rfl rfl (by decide +kernel) ⟨Nat.le_of_ble_eq_true rfl, Nat.le_of_ble_eq_true rfl⟩) hK hP hD hS hA [0, 1] [] rfl rfl rfl rfl (by decide) (ci := 1) (q0 := 0) rfl rfl rfl rfl hl.1 rfl (Nat.le_of_ble_eq_true rfl) d_M_undo_48 ⟨Nat.zero_le _, Nat.zero_le _⟩ (fun H locs hn3 hP hD hS => ?_)
    have hP : va_P (dC, dI) vwCl [(hm, .inr (1, [.ref qc, .int mw3, .int mf3, .int mz3])), (qc, .inl (cI, 149, .inl mc3))] H := hP
    have hD : va_D A [(hm, .inr (1, [.ref qc, .int mw3, .int mf3, .int mz3])), (qc, .inl (cI, 149, .inl mc3))] := hD
    obtain ⟨e1_, e2_, e3_, e4_, e5_⟩ := lf5 hf
    subst e1_; subst e2_; subst e3_; subst e4_; subst e5_
    have hP9 := hP.sub (ws' := [(hm, .inr (1, [.ref qc, .int mw3, .int mf3, .int mz3])), (qc, .inl (cI, 149, .inl mc3))]) [0, 1] rfl
    have hD9 := hD.sub (ws' := [(hm, .inr (1, [.ref qc, .int mw3, .int mf3, .int mz3])), (qc, .inl (cI, 149, .inl mc3))]) [0, 1] (by decide) rfl
    exact W.zret (v := r3) (ty := .boolean) hx hb hr hn3 (fun t ht hW => ⟨⟨r3, (), rfl, ⟨rfl, hn3⟩, by rw [ht]; exact hP9, va_K.moved hW.alike hK, hD9⟩, hS.F ht⟩) hS.2.2 d_M_undo_51
  have hf := ifn hf hc2
  refine lv_bipush (v := 108) hx hb d_M_undo_11 (by decide) ?_
  refine lv_iconst (v := 2) hx hb d_M_undo_13 (by decide) ?_
  refine lv_iload_n hx hb d_M_undo_14 rfl (lv_at hl 1 rfl) ?_
  refine lv_imul hx hb d_M_undo_15 ?_
  refine lv_iadd hx hb d_M_undo_16 ?_
  refine lv_istore_n hx hb d_M_undo_17 rfl hl (by decide) rfl (fun ls hl => ?_)
  have hl : lv_has ls 3 [(2, .int (108 + (2 * v1))), (0, .ref hm), (1, .int v1)] := hl
  refine lv_aload_n hx hb d_M_undo_18 rfl (lv_at hl 1 rfl) ?_
  refine lv_aload_n hx hb d_M_undo_19 rfl (lv_at hl 1 rfl) ?_
  refine va_get (D := (dC, dI)) (ci := 1) (v := .ref qc) (C := R_M) (T := F_M) (N := 4) hx hb hts inM hown hK hP 0 rfl rfl 0 (by decide) kf11 (fun _ h9 => h9) rfl d_M_undo_20 ?_
  refine lv_iload_n hx hb d_M_undo_23 rfl (lv_at hl 0 rfl) ?_
  obtain ⟨hin_, hf⟩ := ix_some hf
  refine va_iald hx hb hK hP 1 0 rfl rfl hin_ d_M_undo_24 ?_
  refine lv_aload_n hx hb d_M_undo_25 rfl (lv_at hl 1 rfl) ?_
  refine va_get (D := (dC, dI)) (ci := 1) (v := .ref qc) (C := R_M) (T := F_M) (N := 4) hx hb hts inM hown hK hP 0 rfl rfl 0 (by decide) kf11 (fun _ h9 => h9) rfl d_M_undo_26 ?_
  refine lv_iload_n hx hb d_M_undo_29 rfl (lv_at hl 0 rfl) ?_
  refine lv_iconst (v := 1) hx hb d_M_undo_30 (by decide) ?_
  refine lv_iadd hx hb d_M_undo_31 ?_
  obtain ⟨hin_, hf⟩ := ix_some hf
  refine va_iald hx hb hK hP 1 0 rfl rfl hin_ d_M_undo_32 ?_
  obtain ⟨r6, mc6, mw6, mf6, mz6, hg, hf⟩ := bd5_some hf
  refine xcz (wr := []) (ctM_write l dC dI cI hm qc mc mw mf mz (mc (108 + (2 * v1) : Int32).toNatClampNeg) (mc ((108 + (2 * v1)) + 1 : Int32).toNatClampNeg) r6 mc6 mw6 mf6 mz6 hg) ⟨hx, hb, hml, hown, hts⟩ (cwV (C := R_M) 2 hts (gV wq214 wq215 wq216 wq44 wq217) rfl rfl rfl (by decide +kernel) ⟨Nat.le_of_ble_eq_true rfl, Nat.le_of_ble_eq_true rfl⟩) hK hP hD hS hA [0, 1] [] rfl rfl rfl rfl (by decide) (ci := 1) (q0 := 0) rfl rfl rfl rfl hl.1 rfl (Nat.le_of_ble_eq_true rfl) d_M_undo_33 ⟨Nat.zero_le _, Nat.zero_le _⟩ (fun H locs hn6 hP hD hS => ?_)
  have hP : va_P (dC, dI) vwCl [(hm, .inr (1, [.ref qc, .int mw6, .int mf6, .int mz6])), (qc, .inl (cI, 149, .inl mc6))] H := hP
  have hD : va_D A [(hm, .inr (1, [.ref qc, .int mw6, .int mf6, .int mz6])), (qc, .inl (cI, 149, .inl mc6))] := hD
  refine lv_if_ne (tgt := 41) hx hb d_M_undo_36 rfl (fun hc7 => ?_) (fun hc7 => ?_)
  · have hf := ifn hf hc7
    refine lv_iinc (v := v1 + (-1)) hx hb d_M_undo_41 hl (k := 2) rfl rfl (by decide) rfl (fun ls hl => ?_)
    have hl : lv_has ls 3 [(1, .int (v1 + (-1))), (2, .int (108 + (2 * v1))), (0, .ref hm)] := hl
    refine lv_goto (tgt := 7) hx hb d_M_undo_44 rfl ?_
    have hl := lv_sub (l' := [(0, .ref hm), (1, .int (v1 + (-1)))]) hl [2, 0] rfl
    exact ih (mc6, mw6, mf6, mz6, v1 + (-1)) _ _ ls ⟨hP, hD, hS, hl, hf⟩
  have hf := ift hf hc7
  refine lv_iconst (v := 0) hx hb d_M_undo_39 (by decide) ?_
  obtain ⟨e1_, e2_, e3_, e4_, e5_⟩ := lf5 hf
  subst e1_; subst e2_; subst e3_; subst e4_; subst e5_
  have hP9 := hP.sub (ws' := [(hm, .inr (1, [.ref qc, .int mw6, .int mf6, .int mz6])), (qc, .inl (cI, 149, .inl mc6))]) [0, 1] rfl
  have hD9 := hD.sub (ws' := [(hm, .inr (1, [.ref qc, .int mw6, .int mf6, .int mz6])), (qc, .inl (cI, 149, .inl mc6))]) [0, 1] (by decide) rfl
  exact W.zret (v := 0) (ty := .boolean) hx hb hr rfl (fun t ht hW => ⟨⟨0, (), rfl, ⟨rfl, rfl⟩, by rw [ht]; exact hP9, va_K.moved hW.alike hK, hD9⟩, hS.F ht⟩) hS.2.2 d_M_undo_40
end
section
theorem d_I_init_0 : decode b_I_init 0 = .ok (.aload_n 0, 1) := by decide +kernel
theorem d_I_init_1 : decode b_I_init 1 = .ok (.invokespecial 1, 3) := by decide +kernel
theorem d_I_init_4 : decode b_I_init 4 = .ok (.aload_n 0, 1) := by decide +kernel
theorem d_I_init_5 : decode b_I_init 5 = .ok (.bipush 24, 2) := by decide +kernel
theorem d_I_init_7 : decode b_I_init 7 = .ok (.newarray .int, 2) := by decide +kernel
theorem d_I_init_9 : decode b_I_init 9 = .ok (.putfield 9, 3) := by decide +kernel
theorem d_I_init_12 : decode b_I_init 12 = .ok (.return_, 1) := by decide +kernel
def fI_init : Option (StI) := some (fun _ => 0, 0)
set_option maxHeartbeats 4000000 in
set_option maxRecDepth 100000 in
theorem ctI_init (l : Launch) (dC : Nat → ClassId) (dI : Nat → Nat → Nat) (cI : ClassId) (hi : Nat) (ib' : Nat → Int32) (ic' : Int32) (hf : fI_init = some (ib', ic')) : CtN l y_I_init w_I_init ({ frames := 1, cells := 1, slots := 24, locals := 12 }) (dC, dI) [(cI, .int)] [.ref hi] [(hi, .inr (2, [.null, .int 0]))] (fun u : Nat => [(hi, .inr (2, [.ref (u), .int ic'])), ((u), .inl (cI, 24, .inl ib'))]) 1 24 := by
  intro sz
  refine Met.ofW (cc := b_I_init) (maxL := 1) (ret := none) (by decide) rfl ?_
  intro p e s m args below meth c s₁ B hml hv
  obtain ⟨rfl, hsz, hP, hK, hD0⟩ := hv
  have hx := B.exec
  have hb := B.bytes
  have hr := B.returns
  have hts := atoms_spec (ws := w_I_init) B.pre
  have hown : s.vm.findClass R_I = some m.cls := findClass_of_methodNamed B.named
  have hlocks := B.notSynchronized
  have hin : meth.name = "<init>" := (name_of_methodNamed B.named B.method).1
  subst hsz
  have hD := hD0.self (sz := s.heap.size)
  generalize hAe : va_A [(hi, .inr (2, [.null, .int 0]))] s.heap.size = A at hD ⊢
  have hA : ∀ q : Nat, s.heap.size ≤ q → A q := fun q h => by rw [← hAe]; exact Or.inr h
  have hS : va_S A s.heap s.heap [] := va_S.rf
  have hP : va_P (dC, dI) vwCl [(hi, .inr (2, [.null, .int 0]))] s.heap := hP
  have hl := lv_entry ([.ref hi]) (n := 1) (Nat.le_of_ble_eq_true rfl)
  rw [lg_entry_eq]
  generalize (lg_sl ([.ref hi]) ++ List.replicate (1 - (lg_sl ([.ref hi])).length) Slot.unset).toArray = ls at hl ⊢
  have hl : lv_has ls 1 [(0, .ref hi)] := hl
  have inI : ∀ w ∈ u_ws R_I F_I 2, w ∈ w_I_init := fun w h => List.mem_cons_of_mem _ (in_I w h)
  have ka0 := hts _ (List.mem_cons_of_mem _ wq77)
  have kf9 := hts _ (List.mem_cons_of_mem _ wq84)
  have km1 := hts _ (List.mem_cons_of_mem _ wq83)
  have ko0 := hts _ (List.mem_cons_of_mem _ wq56)
  have ko1 := hts _ (List.mem_cons_of_mem _ wq57)
  rw [fI_init] at hf
  refine lv_aload_n hx hb d_I_init_0 rfl (lv_at hl 0 rfl) ?_
  refine W.objInit hx hb hown km1 ko0 ko1 rfl (by rw [hml]; exact hl.1) rfl d_I_init_1 (Nat.le_of_ble_eq_true rfl) (Nat.le_of_ble_eq_true rfl) ?_
  refine W.eq (g2 := F0 m 4 ls []) rfl ?_
  refine lv_aload_n hx hb d_I_init_4 rfl (lv_at hl 0 rfl) ?_
  refine lv_bipush (v := 24) hx hb d_I_init_5 (by decide) ?_
  refine xnewa (N := 24) hx hb ka0 hK hP hD hS hA (by decide) (by decide) (by decide) (Nat.le_of_ble_eq_true rfl) (Nat.le_of_ble_eq_true rfl) d_I_init_7 (fun qb H hP hD hS => ?_)
  have hP : va_P (dC, dI) vwCl [(hi, .inr (2, [.null, .int 0])), (qb, .inl (cI, 24, .inl (fun _ => 0)))] H := hP
  have hD : va_D A [(hi, .inr (2, [.null, .int 0])), (qb, .inl (cI, 24, .inl (fun _ => 0)))] := hD
  refine va_putF (D := (dC, dI)) (ci := 2) (v := .ref qb) (ty := .array .int) (C := R_I) (T := F_I) (N := 2) hx hb hts inI t_I t_I_ok n_I hown hK hP hD hS 0 rfl rfl 0 (by decide) kf9 (fun _ h9 => h9) rfl hin rfl (by decide +kernel) rfl rfl (Nat.le_of_ble_eq_true rfl) d_I_init_9 (fun H locs hP hD hS => ?_)
  have hP : va_P (dC, dI) vwCl [(hi, .inr (2, [.ref qb, .int 0])), (qb, .inl (cI, 24, .inl (fun _ => 0)))] H := hP
  have hD : va_D A [(hi, .inr (2, [.ref qb, .int 0])), (qb, .inl (cI, 24, .inl (fun _ => 0)))] := hD
  obtain ⟨e1_, e2_⟩ := lf2 hf
  subst e1_; subst e2_
  have hP9 := hP.sub (ws' := [(hi, .inr (2, [.ref qb, .int 0])), (qb, .inl (cI, 24, .inl (fun _ => 0)))]) [0, 1] rfl
  have hD9 := hD.sub (ws' := [(hi, .inr (2, [.ref qb, .int 0])), (qb, .inl (cI, 24, .inl (fun _ => 0)))]) [0, 1] (by decide) rfl
  refine W.widen (k := 1) (n := 24) (Nat.le_of_ble_eq_true rfl) (Nat.le_of_ble_eq_true rfl) ?_
  exact W.vret hx hb hr (fun t ht hW => ⟨⟨qb, rfl, trivial, by rw [ht]; exact hP9, va_K.moved hW.alike hK, hD9⟩, hS.F ht⟩) hS.2.2 d_I_init_12
theorem d_I_append_0 : decode b_I_append 0 = .ok (.iload_n 3, 1) := by decide +kernel
theorem d_I_append_1 : decode b_I_append 1 = .ok (.iconst 1, 1) := by decide +kernel
theorem d_I_append_2 : decode b_I_append 2 = .ok (.if_icmp .lt 20, 3) := by decide +kernel
theorem d_I_append_5 : decode b_I_append 5 = .ok (.iload_n 3, 1) := by decide +kernel
theorem d_I_append_6 : decode b_I_append 6 = .ok (.bipush 8, 2) := by decide +kernel
theorem d_I_append_8 : decode b_I_append 8 = .ok (.if_icmp .gt 14, 3) := by decide +kernel
theorem d_I_append_11 : decode b_I_append 11 = .ok (.aload_n 0, 1) := by decide +kernel
theorem d_I_append_12 : decode b_I_append 12 = .ok (.getfield 13, 3) := by decide +kernel
theorem d_I_append_15 : decode b_I_append 15 = .ok (.iload_n 3, 1) := by decide +kernel
theorem d_I_append_16 : decode b_I_append 16 = .ok (.iadd, 1) := by decide +kernel
theorem d_I_append_17 : decode b_I_append 17 = .ok (.bipush 24, 2) := by decide +kernel
theorem d_I_append_19 : decode b_I_append 19 = .ok (.if_icmp .le 5, 3) := by decide +kernel
theorem d_I_append_22 : decode b_I_append 22 = .ok (.iconst 0, 1) := by decide +kernel
theorem d_I_append_23 : decode b_I_append 23 = .ok (.ireturn, 1) := by decide +kernel
theorem d_I_append_24 : decode b_I_append 24 = .ok (.iload_n 3, 1) := by decide +kernel
theorem d_I_append_25 : decode b_I_append 25 = .ok (.iconst 1, 1) := by decide +kernel
theorem d_I_append_26 : decode b_I_append 26 = .ok (.isub, 1) := by decide +kernel
theorem d_I_append_27 : decode b_I_append 27 = .ok (.istore 4, 2) := by decide +kernel
theorem d_I_append_29 : decode b_I_append 29 = .ok (.iload 4, 2) := by decide +kernel
theorem d_I_append_31 : decode b_I_append 31 = .ok (.ifCond .lt 40, 3) := by decide +kernel
theorem d_I_append_34 : decode b_I_append 34 = .ok (.aload_n 0, 1) := by decide +kernel
theorem d_I_append_35 : decode b_I_append 35 = .ok (.getfield 9, 3) := by decide +kernel
theorem d_I_append_38 : decode b_I_append 38 = .ok (.aload_n 0, 1) := by decide +kernel
theorem d_I_append_39 : decode b_I_append 39 = .ok (.getfield 13, 3) := by decide +kernel
theorem d_I_append_42 : decode b_I_append 42 = .ok (.lload_n 1, 1) := by decide +kernel
theorem d_I_append_43 : decode b_I_append 43 = .ok (.bipush 8, 2) := by decide +kernel
theorem d_I_append_45 : decode b_I_append 45 = .ok (.iload 4, 2) := by decide +kernel
theorem d_I_append_47 : decode b_I_append 47 = .ok (.imul, 1) := by decide +kernel
theorem d_I_append_48 : decode b_I_append 48 = .ok (.lushr, 1) := by decide +kernel
theorem d_I_append_49 : decode b_I_append 49 = .ok (.l2i, 1) := by decide +kernel
theorem d_I_append_50 : decode b_I_append 50 = .ok (.sipush 255, 3) := by decide +kernel
theorem d_I_append_53 : decode b_I_append 53 = .ok (.iand, 1) := by decide +kernel
theorem d_I_append_54 : decode b_I_append 54 = .ok (.iastore, 1) := by decide +kernel
theorem d_I_append_55 : decode b_I_append 55 = .ok (.aload_n 0, 1) := by decide +kernel
theorem d_I_append_56 : decode b_I_append 56 = .ok (.dup, 1) := by decide +kernel
theorem d_I_append_57 : decode b_I_append 57 = .ok (.getfield 13, 3) := by decide +kernel
theorem d_I_append_60 : decode b_I_append 60 = .ok (.iconst 1, 1) := by decide +kernel
theorem d_I_append_61 : decode b_I_append 61 = .ok (.iadd, 1) := by decide +kernel
theorem d_I_append_62 : decode b_I_append 62 = .ok (.putfield 13, 3) := by decide +kernel
theorem d_I_append_65 : decode b_I_append 65 = .ok (.iinc 4 (-1), 3) := by decide +kernel
theorem d_I_append_68 : decode b_I_append 68 = .ok (.goto (-39), 3) := by decide +kernel
theorem d_I_append_71 : decode b_I_append 71 = .ok (.iconst 1, 1) := by decide +kernel
theorem d_I_append_72 : decode b_I_append 72 = .ok (.ireturn, 1) := by decide +kernel
def fI_append_L29 : Nat → StI → Int64 → Int32 → Int32 → Option (Int32 × StI)
  | 0, _, _, _, _ => none
  | n + 1, (ib, ic), v1, v3, v4 => if v4 < 0 then (some (1, ib, ic)) else (ix ic 24 fun j5 => fI_append_L29 n (upd ib j5 ((((v1.toUInt64 >>> ((8 * v4).toInt64.toUInt64 &&& Int64.toUInt64 63)).toInt64).toInt32) &&& 255), ic + 1) v1 v3 (v4 + (-1)))
def fI_append (σ : StI) (a1 : Int64) (a2 : Int32) : Option (Int32 × StI) := match σ with | (ib, ic) => if a2 < 1 then (some (0, ib, ic)) else (if 8 < a2 then (some (0, ib, ic)) else (if (ic + a2) ≤ 24 then (fI_append_L29 300 (ib, ic) a1 a2 (a2 - 1)) else (some (0, ib, ic))))
set_option maxHeartbeats 4000000 in
set_option maxRecDepth 100000 in
theorem ctI_append (l : Launch) (dC : Nat → ClassId) (dI : Nat → Nat → Nat) (cI : ClassId) (hi qb : Nat) (ib : Nat → Int32) (ic : Int32) (a1 : Int64) (a2 : Int32) (r : Int32) (ib' : Nat → Int32) (ic' : Int32) (hf : fI_append (ib, ic) a1 a2 = some (r, ib', ic')) : CtZ l y_I_append w_I_append ({ frames := 0, cells := 0, slots := 0, locals := 0 }) (dC, dI) [(cI, .int)] [.ref hi, .long a1, .int a2] [(hi, .inr (2, [.ref qb, .int ic])), (qb, .inl (cI, 24, .inl ib))] [(hi, .inr (2, [.ref qb, .int ic'])), (qb, .inl (cI, 24, .inl ib'))] r := by
  intro sz
  refine Met.ofW (cc := b_I_append) (maxL := 5) (ret := some .boolean) (by decide) rfl ?_
  intro p e s m args below meth c s₁ B hml hv
  obtain ⟨rfl, hsz, hP, hK, hD0⟩ := hv
  have hx := B.exec
  have hb := B.bytes
  have hr := B.returns
  have hts := atoms_spec (ws := w_I_append) B.pre
  have hown : s.vm.findClass R_I = some m.cls := findClass_of_methodNamed B.named
  have hlocks := B.notSynchronized
  subst hsz
  have hD := hD0.self (sz := s.heap.size)
  generalize hAe : va_A [(hi, .inr (2, [.ref qb, .int ic])), (qb, .inl (cI, 24, .inl ib))] s.heap.size = A at hD ⊢
  have hA : ∀ q : Nat, s.heap.size ≤ q → A q := fun q h => by rw [← hAe]; exact Or.inr h
  have hS : va_S A s.heap s.heap [] := va_S.rf
  have hP : va_P (dC, dI) vwCl [(hi, .inr (2, [.ref qb, .int ic])), (qb, .inl (cI, 24, .inl ib))] s.heap := hP
  have hl := lv_entry ([.ref hi, .long a1, .int a2]) (n := 5) (Nat.le_of_ble_eq_true rfl)
  rw [lg_entry_eq]
  generalize (lg_sl ([.ref hi, .long a1, .int a2]) ++ List.replicate (5 - (lg_sl ([.ref hi, .long a1, .int a2])).length) Slot.unset).toArray = ls at hl ⊢
  have hl : lv_has ls 5 [(0, .ref hi), (1, .long a1), (3, .int a2)] := hl
  have inI : ∀ w ∈ u_ws R_I F_I 2, w ∈ w_I_append := fun w h => List.mem_cons_of_mem _ (in_I w h)
  have kf13 := hts _ (List.mem_cons_of_mem _ wq85)
  have kf9 := hts _ (List.mem_cons_of_mem _ wq84)
  rw [fI_append] at hf
  refine lv_iload_n hx hb d_I_append_0 rfl (lv_at hl 2 rfl) ?_
  refine lv_iconst (v := 1) hx hb d_I_append_1 (by decide) ?_
  refine lv_icmp_lt (tgt := 22) hx hb d_I_append_2 rfl (fun hc1 => ?_) (fun hc1 => ?_)
  · have hf := ift hf hc1
    refine lv_iconst (v := 0) hx hb d_I_append_22 (by decide) ?_
    obtain ⟨e1_, e2_, e3_⟩ := lf3 hf
    subst e1_; subst e2_; subst e3_
    have hP9 := hP.sub (ws' := [(hi, .inr (2, [.ref qb, .int ic])), (qb, .inl (cI, 24, .inl ib))]) [0, 1] rfl
    have hD9 := hD.sub (ws' := [(hi, .inr (2, [.ref qb, .int ic])), (qb, .inl (cI, 24, .inl ib))]) [0, 1] (by decide) rfl
    exact W.zret (v := 0) (ty := .boolean) hx hb hr rfl (fun t ht hW => ⟨⟨0, (), rfl, ⟨rfl, rfl⟩, by rw [ht]; exact hP9, va_K.moved hW.alike hK, hD9⟩, hS.F ht⟩) hS.2.2 d_I_append_23
  have hf := ifn hf hc1
  refine lv_iload_n hx hb d_I_append_5 rfl (lv_at hl 2 rfl) ?_
  refine lv_bipush (v := 8) hx hb d_I_append_6 (by decide) ?_
  refine lv_icmp_gt (tgt := 22) hx hb d_I_append_8 rfl (fun hc2 => ?_) (fun hc2 => ?_)
  · have hf := ift hf hc2
    refine lv_iconst (v := 0) hx hb d_I_append_22 (by decide) ?_
    obtain ⟨e1_, e2_, e3_⟩ := lf3 hf
    subst e1_; subst e2_; subst e3_
    have hP9 := hP.sub (ws' := [(hi, .inr (2, [.ref qb, .int ic])), (qb, .inl (cI, 24, .inl ib))]) [0, 1] rfl
    have hD9 := hD.sub (ws' := [(hi, .inr (2, [.ref qb, .int ic])), (qb, .inl (cI, 24, .inl ib))]) [0, 1] (by decide) rfl
    exact W.zret (v := 0) (ty := .boolean) hx hb hr rfl (fun t ht hW => ⟨⟨0, (), rfl, ⟨rfl, rfl⟩, by rw [ht]; exact hP9, va_K.moved hW.alike hK, hD9⟩, hS.F ht⟩) hS.2.2 d_I_append_23
  have hf := ifn hf hc2
  refine lv_aload_n hx hb d_I_append_11 rfl (lv_at hl 0 rfl) ?_
  refine va_get (D := (dC, dI)) (ci := 2) (v := .int ic) (C := R_I) (T := F_I) (N := 2) hx hb hts inI hown hK hP 0 rfl rfl 1 (by decide) kf13 (fun _ h9 => h9) rfl d_I_append_12 ?_
  refine lv_iload_n hx hb d_I_append_15 rfl (lv_at hl 2 rfl) ?_
  refine lv_iadd hx hb d_I_append_16 ?_
  refine lv_bipush (v := 24) hx hb d_I_append_17 (by decide) ?_
  refine lv_icmp_le (tgt := 24) hx hb d_I_append_19 rfl (fun hc3 => ?_) (fun hc3 => ?_)
  · have hf := ift hf hc3
    refine lv_iload_n hx hb d_I_append_24 rfl (lv_at hl 2 rfl) ?_
    refine lv_iconst (v := 1) hx hb d_I_append_25 (by decide) ?_
    refine lv_isub hx hb d_I_append_26 ?_
    refine lv_istore hx hb d_I_append_27 hl (by decide) rfl (fun ls hl => ?_)
    have hl : lv_has ls 5 [(4, .int (a2 - 1)), (0, .ref hi), (1, .long a1), (3, .int a2)] := hl
    have hl := lv_sub (l' := [(0, .ref hi), (1, .long a1), (3, .int a2), (4, .int (a2 - 1))]) hl [1, 2, 3, 0] rfl
    refine xloop (σ := (Nat → Int32) × (Int32) × (Int64) × (Int32) × (Int32)) (pc := 29) (fun n x H locs ls => va_P (dC, dI) vwCl [(hi, .inr (2, [.ref qb, .int (x.2.1)])), (qb, .inl (cI, 24, .inl (x.1)))] H ∧ va_D A [(hi, .inr (2, [.ref qb, .int (x.2.1)])), (qb, .inl (cI, 24, .inl (x.1)))] ∧ va_S A s.heap H locs ∧ lv_has ls 5 [(0, .ref hi), (1, .long (x.2.2.1)), (3, .int (x.2.2.2.1)), (4, .int (x.2.2.2.2))] ∧ fI_append_L29 n (x.1, x.2.1) x.2.2.1 x.2.2.2.1 x.2.2.2.2 = some (r, ib', ic')) ?_ (fun x H locs ls h => by have h9 := h.2.2.2.2; rw [fI_append_L29] at h9; cases h9) 300 (ib, ic, a1, a2, a2 - 1) _ _ ls ⟨hP, hD, hS, hl, hf⟩
    intro n ih x H locs ls hI
    obtain ⟨ib, ic, v1, v3, v4⟩ := x
    obtain ⟨hP, hD, hS, hl, hf⟩ := hI
    have hP : va_P (dC, dI) vwCl [(hi, .inr (2, [.ref qb, .int ic])), (qb, .inl (cI, 24, .inl ib))] H := hP
    have hD : va_D A [(hi, .inr (2, [.ref qb, .int ic])), (qb, .inl (cI, 24, .inl ib))] := hD
    have hl : lv_has ls 5 [(0, .ref hi), (1, .long v1), (3, .int v3), (4, .int v4)] := hl
    rw [fI_append_L29] at hf
    refine lv_iload hx hb d_I_append_29 (lv_at hl 3 rfl) ?_
    refine lv_if_lt (tgt := 71) hx hb d_I_append_31 rfl (fun hc4 => ?_) (fun hc4 => ?_)
    · have hf := ift hf hc4
      refine lv_iconst (v := 1) hx hb d_I_append_71 (by decide) ?_
      obtain ⟨e1_, e2_, e3_⟩ := lf3 hf
      subst e1_; subst e2_; subst e3_
      have hP9 := hP.sub (ws' := [(hi, .inr (2, [.ref qb, .int ic])), (qb, .inl (cI, 24, .inl ib))]) [0, 1] rfl
      have hD9 := hD.sub (ws' := [(hi, .inr (2, [.ref qb, .int ic])), (qb, .inl (cI, 24, .inl ib))]) [0, 1] (by decide) rfl
      exact W.zret (v := 1) (ty := .boolean) hx hb hr rfl (fun t ht hW => ⟨⟨1, (), rfl, ⟨rfl, rfl⟩, by rw [ht]; exact hP9, va_K.moved hW.alike hK, hD9⟩, hS.F ht⟩) hS.2.2 d_I_append_72
    have hf := ifn hf hc4
    refine lv_aload_n hx hb d_I_append_34 rfl (lv_at hl 0 rfl) ?_
    refine va_get (D := (dC, dI)) (ci := 2) (v := .ref qb) (C := R_I) (T := F_I) (N := 2) hx hb hts inI hown hK hP 0 rfl rfl 0 (by decide) kf9 (fun _ h9 => h9) rfl d_I_append_35 ?_
    refine lv_aload_n hx hb d_I_append_38 rfl (lv_at hl 0 rfl) ?_
    refine va_get (D := (dC, dI)) (ci := 2) (v := .int ic) (C := R_I) (T := F_I) (N := 2) hx hb hts inI hown hK hP 0 rfl rfl 1 (by decide) kf13 (fun _ h9 => h9) rfl d_I_append_39 ?_
    refine lv_lload_n hx hb d_I_append_42 rfl (lv_at hl 1 rfl) ?_
    refine lv_bipush (v := 8) hx hb d_I_append_43 (by decide) ?_
    refine lv_iload hx hb d_I_append_45 (lv_at hl 3 rfl) ?_
    refine lv_imul hx hb d_I_append_47 ?_
    refine lv_lushr (v := (v1.toUInt64 >>> ((8 * v4).toInt64.toUInt64 &&& Int64.toUInt64 63)).toInt64) hx hb d_I_append_48 rfl ?_
    refine lv_l2i (v := ((v1.toUInt64 >>> ((8 * v4).toInt64.toUInt64 &&& Int64.toUInt64 63)).toInt64).toInt32) hx hb d_I_append_49 rfl ?_
    refine lv_sipush (v := 255) hx hb d_I_append_50 (by decide) ?_
    refine lv_iand hx hb d_I_append_53 ?_
    obtain ⟨hin_, hf⟩ := ix_some hf
    refine va_iast hx hb hK hP hD hS 1 0 rfl rfl hin_ d_I_append_54 (fun H locs hP hD hS => ?_)
    have hP : va_P (dC, dI) vwCl [(hi, .inr (2, [.ref qb, .int ic])), (qb, .inl (cI, 24, .inl (upd ib (ic : Int32).toNatClampNeg ((((v1.toUInt64 >>> ((8 * v4).toInt64.toUInt64 &&& Int64.toUInt64 63)).toInt64).toInt32) &&& 255))))] H := hP
    have hD : va_D A [(hi, .inr (2, [.ref qb, .int ic])), (qb, .inl (cI, 24, .inl (upd ib (ic : Int32).toNatClampNeg ((((v1.toUInt64 >>> ((8 * v4).toInt64.toUInt64 &&& Int64.toUInt64 63)).toInt64).toInt32) &&& 255))))] := hD
    refine lv_aload_n hx hb d_I_append_55 rfl (lv_at hl 0 rfl) ?_
    refine lv_dup hx hb d_I_append_56 rfl ?_
    refine va_get (D := (dC, dI)) (ci := 2) (v := .int ic) (C := R_I) (T := F_I) (N := 2) hx hb hts inI hown hK hP 0 rfl rfl 1 (by decide) kf13 (fun _ h9 => h9) rfl d_I_append_57 ?_
    refine lv_iconst (v := 1) hx hb d_I_append_60 (by decide) ?_
    refine lv_iadd hx hb d_I_append_61 ?_
    refine va_put (D := (dC, dI)) (ci := 2) (v := .int (ic + 1)) (ty := .int) (C := R_I) (T := F_I) (N := 2) hx hb hts inI t_I t_I_ok n_I hown hK hP hD hS 0 rfl rfl 1 (by decide) kf13 (fun _ h9 => h9) rfl (by decide +kernel) rfl rfl (Nat.le_of_ble_eq_true rfl) d_I_append_62 (fun H locs hP hD hS => ?_)
    have hP : va_P (dC, dI) vwCl [(hi, .inr (2, [.ref qb, .int (ic + 1)])), (qb, .inl (cI, 24, .inl (upd ib (ic : Int32).toNatClampNeg ((((v1.toUInt64 >>> ((8 * v4).toInt64.toUInt64 &&& Int64.toUInt64 63)).toInt64).toInt32) &&& 255))))] H := hP
    have hD : va_D A [(hi, .inr (2, [.ref qb, .int (ic + 1)])), (qb, .inl (cI, 24, .inl (upd ib (ic : Int32).toNatClampNeg ((((v1.toUInt64 >>> ((8 * v4).toInt64.toUInt64 &&& Int64.toUInt64 63)).toInt64).toInt32) &&& 255))))] := hD
    refine lv_iinc (v := v4 + (-1)) hx hb d_I_append_65 hl (k := 3) rfl rfl (by decide) rfl (fun ls hl => ?_)
    have hl : lv_has ls 5 [(4, .int (v4 + (-1))), (0, .ref hi), (1, .long v1), (3, .int v3)] := hl
    refine lv_goto (tgt := 29) hx hb d_I_append_68 rfl ?_
    have hl := lv_sub (l' := [(0, .ref hi), (1, .long v1), (3, .int v3), (4, .int (v4 + (-1)))]) hl [1, 2, 3, 0] rfl
    exact ih (upd ib (ic : Int32).toNatClampNeg ((((v1.toUInt64 >>> ((8 * v4).toInt64.toUInt64 &&& Int64.toUInt64 63)).toInt64).toInt32) &&& 255), ic + 1, v1, v3, v4 + (-1)) _ _ ls ⟨hP, hD, hS, hl, hf⟩
  have hf := ifn hf hc3
  refine lv_iconst (v := 0) hx hb d_I_append_22 (by decide) ?_
  obtain ⟨e1_, e2_, e3_⟩ := lf3 hf
  subst e1_; subst e2_; subst e3_
  have hP9 := hP.sub (ws' := [(hi, .inr (2, [.ref qb, .int ic])), (qb, .inl (cI, 24, .inl ib))]) [0, 1] rfl
  have hD9 := hD.sub (ws' := [(hi, .inr (2, [.ref qb, .int ic])), (qb, .inl (cI, 24, .inl ib))]) [0, 1] (by decide) rfl
  exact W.zret (v := 0) (ty := .boolean) hx hb hr rfl (fun t ht hW => ⟨⟨0, (), rfl, ⟨rfl, rfl⟩, by rw [ht]; exact hP9, va_K.moved hW.alike hK, hD9⟩, hS.F ht⟩) hS.2.2 d_I_append_23
theorem d_I_clear_0 : decode b_I_clear 0 = .ok (.aload_n 0, 1) := by decide +kernel
theorem d_I_clear_1 : decode b_I_clear 1 = .ok (.iconst 0, 1) := by decide +kernel
theorem d_I_clear_2 : decode b_I_clear 2 = .ok (.putfield 13, 3) := by decide +kernel
theorem d_I_clear_5 : decode b_I_clear 5 = .ok (.return_, 1) := by decide +kernel
def fI_clear (σ : StI) : Option (StI) := match σ with | (ib, ic) => some (ib, 0)
set_option maxHeartbeats 4000000 in
set_option maxRecDepth 100000 in
theorem ctI_clear (l : Launch) (dC : Nat → ClassId) (dI : Nat → Nat → Nat) (cI : ClassId) (hi qb : Nat) (ib : Nat → Int32) (ic : Int32) (ib' : Nat → Int32) (ic' : Int32) (hf : fI_clear (ib, ic) = some (ib', ic')) : CtV l y_I_clear w_I_clear ({ frames := 0, cells := 0, slots := 0, locals := 0 }) (dC, dI) [(cI, .int)] [.ref hi] [(hi, .inr (2, [.ref qb, .int ic])), (qb, .inl (cI, 24, .inl ib))] [(hi, .inr (2, [.ref qb, .int ic'])), (qb, .inl (cI, 24, .inl ib'))] := by
  intro sz
  refine Met.ofW (cc := b_I_clear) (maxL := 1) (ret := none) (by decide) rfl ?_
  intro p e s m args below meth c s₁ B hml hv
  obtain ⟨rfl, hsz, hP, hK, hD0⟩ := hv
  have hx := B.exec
  have hb := B.bytes
  have hr := B.returns
  have hts := atoms_spec (ws := w_I_clear) B.pre
  have hown : s.vm.findClass R_I = some m.cls := findClass_of_methodNamed B.named
  have hlocks := B.notSynchronized
  subst hsz
  have hD := hD0.self (sz := s.heap.size)
  generalize hAe : va_A [(hi, .inr (2, [.ref qb, .int ic])), (qb, .inl (cI, 24, .inl ib))] s.heap.size = A at hD ⊢
  have hA : ∀ q : Nat, s.heap.size ≤ q → A q := fun q h => by rw [← hAe]; exact Or.inr h
  have hS : va_S A s.heap s.heap [] := va_S.rf
  have hP : va_P (dC, dI) vwCl [(hi, .inr (2, [.ref qb, .int ic])), (qb, .inl (cI, 24, .inl ib))] s.heap := hP
  have hl := lv_entry ([.ref hi]) (n := 1) (Nat.le_of_ble_eq_true rfl)
  rw [lg_entry_eq]
  generalize (lg_sl ([.ref hi]) ++ List.replicate (1 - (lg_sl ([.ref hi])).length) Slot.unset).toArray = ls at hl ⊢
  have hl : lv_has ls 1 [(0, .ref hi)] := hl
  have inI : ∀ w ∈ u_ws R_I F_I 2, w ∈ w_I_clear := fun w h => List.mem_cons_of_mem _ (in_I w h)
  have kf13 := hts _ (List.mem_cons_of_mem _ wq85)
  rw [fI_clear] at hf
  refine lv_aload_n hx hb d_I_clear_0 rfl (lv_at hl 0 rfl) ?_
  refine lv_iconst (v := 0) hx hb d_I_clear_1 (by decide) ?_
  refine va_put (D := (dC, dI)) (ci := 2) (v := .int 0) (ty := .int) (C := R_I) (T := F_I) (N := 2) hx hb hts inI t_I t_I_ok n_I hown hK hP hD hS 0 rfl rfl 1 (by decide) kf13 (fun _ h9 => h9) rfl (by decide +kernel) rfl rfl (Nat.le_of_ble_eq_true rfl) d_I_clear_2 (fun H locs hP hD hS => ?_)
  have hP : va_P (dC, dI) vwCl [(hi, .inr (2, [.ref qb, .int 0])), (qb, .inl (cI, 24, .inl ib))] H := hP
  have hD : va_D A [(hi, .inr (2, [.ref qb, .int 0])), (qb, .inl (cI, 24, .inl ib))] := hD
  obtain ⟨e1_, e2_⟩ := lf2 hf
  subst e1_; subst e2_
  have hP9 := hP.sub (ws' := [(hi, .inr (2, [.ref qb, .int 0])), (qb, .inl (cI, 24, .inl ib))]) [0, 1] rfl
  have hD9 := hD.sub (ws' := [(hi, .inr (2, [.ref qb, .int 0])), (qb, .inl (cI, 24, .inl ib))]) [0, 1] (by decide) rfl
  exact W.vret hx hb hr (fun t ht hW => ⟨⟨(), rfl, trivial, by rw [ht]; exact hP9, va_K.moved hW.alike hK, hD9⟩, hS.F ht⟩) hS.2.2 d_I_clear_5
theorem d_I_size_0 : decode b_I_size 0 = .ok (.aload_n 0, 1) := by decide +kernel
theorem d_I_size_1 : decode b_I_size 1 = .ok (.getfield 13, 3) := by decide +kernel
theorem d_I_size_4 : decode b_I_size 4 = .ok (.ireturn, 1) := by decide +kernel
def fI_size (σ : StI) : Option (Int32) := match σ with | (ib, ic) => some ic
set_option maxHeartbeats 4000000 in
set_option maxRecDepth 100000 in
theorem ctI_size (l : Launch) (dC : Nat → ClassId) (dI : Nat → Nat → Nat) (cI : ClassId) (hi qb : Nat) (ib : Nat → Int32) (ic : Int32) (r : Int32) (hf : fI_size (ib, ic) = some r) : CtI l y_I_size w_I_size ({ frames := 0, cells := 0, slots := 0, locals := 0 }) (dC, dI) [(cI, .int)] [.ref hi] [(hi, .inr (2, [.ref qb, .int ic])), (qb, .inl (cI, 24, .inl ib))] [(hi, .inr (2, [.ref qb, .int ic])), (qb, .inl (cI, 24, .inl ib))] r := by
  intro sz
  refine Met.ofW (cc := b_I_size) (maxL := 1) (ret := some .int) (by decide) rfl ?_
  intro p e s m args below meth c s₁ B hml hv
  obtain ⟨rfl, hsz, hP, hK, hD0⟩ := hv
  have hx := B.exec
  have hb := B.bytes
  have hr := B.returns
  have hts := atoms_spec (ws := w_I_size) B.pre
  have hown : s.vm.findClass R_I = some m.cls := findClass_of_methodNamed B.named
  have hlocks := B.notSynchronized
  subst hsz
  have hD := hD0.self (sz := s.heap.size)
  generalize hAe : va_A [(hi, .inr (2, [.ref qb, .int ic])), (qb, .inl (cI, 24, .inl ib))] s.heap.size = A at hD ⊢
  have hA : ∀ q : Nat, s.heap.size ≤ q → A q := fun q h => by rw [← hAe]; exact Or.inr h
  have hS : va_S A s.heap s.heap [] := va_S.rf
  have hP : va_P (dC, dI) vwCl [(hi, .inr (2, [.ref qb, .int ic])), (qb, .inl (cI, 24, .inl ib))] s.heap := hP
  have hl := lv_entry ([.ref hi]) (n := 1) (Nat.le_of_ble_eq_true rfl)
  rw [lg_entry_eq]
  generalize (lg_sl ([.ref hi]) ++ List.replicate (1 - (lg_sl ([.ref hi])).length) Slot.unset).toArray = ls at hl ⊢
  have hl : lv_has ls 1 [(0, .ref hi)] := hl
  have inI : ∀ w ∈ u_ws R_I F_I 2, w ∈ w_I_size := fun w h => List.mem_cons_of_mem _ (in_I w h)
  have kf13 := hts _ (List.mem_cons_of_mem _ wq85)
  rw [fI_size] at hf
  refine lv_aload_n hx hb d_I_size_0 rfl (lv_at hl 0 rfl) ?_
  refine va_get (D := (dC, dI)) (ci := 2) (v := .int ic) (C := R_I) (T := F_I) (N := 2) hx hb hts inI hown hK hP 0 rfl rfl 1 (by decide) kf13 (fun _ h9 => h9) rfl d_I_size_1 ?_
  have e1_ := lf1 hf
  subst e1_
  have hP9 := hP.sub (ws' := [(hi, .inr (2, [.ref qb, .int ic])), (qb, .inl (cI, 24, .inl ib))]) [0, 1] rfl
  have hD9 := hD.sub (ws' := [(hi, .inr (2, [.ref qb, .int ic])), (qb, .inl (cI, 24, .inl ib))]) [0, 1] (by decide) rfl
  exact W.iret (v := ic) hx hb hr (fun t ht hW => ⟨⟨ic, (), rfl, rfl, by rw [ht]; exact hP9, va_K.moved hW.alike hK, hD9⟩, hS.F ht⟩) hS.2.2 d_I_size_4
theorem d_I_lc_0 : decode b_I_lc 0 = .ok (.aload_n 0, 1) := by decide +kernel
theorem d_I_lc_1 : decode b_I_lc 1 = .ok (.getfield 9, 3) := by decide +kernel
theorem d_I_lc_4 : decode b_I_lc 4 = .ok (.iconst 4, 1) := by decide +kernel
theorem d_I_lc_5 : decode b_I_lc 5 = .ok (.iaload, 1) := by decide +kernel
theorem d_I_lc_6 : decode b_I_lc 6 = .ok (.ireturn, 1) := by decide +kernel
def fI_lc (σ : StI) : Option (Int32) := match σ with | (ib, ic) => ix 4 24 fun j1 => some (ib j1)
set_option maxHeartbeats 4000000 in
set_option maxRecDepth 100000 in
theorem ctI_lc (l : Launch) (dC : Nat → ClassId) (dI : Nat → Nat → Nat) (cI : ClassId) (hi qb : Nat) (ib : Nat → Int32) (ic : Int32) (r : Int32) (hf : fI_lc (ib, ic) = some r) : CtI l y_I_lc w_I_lc ({ frames := 0, cells := 0, slots := 0, locals := 0 }) (dC, dI) [(cI, .int)] [.ref hi] [(hi, .inr (2, [.ref qb, .int ic])), (qb, .inl (cI, 24, .inl ib))] [(hi, .inr (2, [.ref qb, .int ic])), (qb, .inl (cI, 24, .inl ib))] r := by
  intro sz
  refine Met.ofW (cc := b_I_lc) (maxL := 1) (ret := some .int) (by decide) rfl ?_
  intro p e s m args below meth c s₁ B hml hv
  obtain ⟨rfl, hsz, hP, hK, hD0⟩ := hv
  have hx := B.exec
  have hb := B.bytes
  have hr := B.returns
  have hts := atoms_spec (ws := w_I_lc) B.pre
  have hown : s.vm.findClass R_I = some m.cls := findClass_of_methodNamed B.named
  have hlocks := B.notSynchronized
  subst hsz
  have hD := hD0.self (sz := s.heap.size)
  generalize hAe : va_A [(hi, .inr (2, [.ref qb, .int ic])), (qb, .inl (cI, 24, .inl ib))] s.heap.size = A at hD ⊢
  have hA : ∀ q : Nat, s.heap.size ≤ q → A q := fun q h => by rw [← hAe]; exact Or.inr h
  have hS : va_S A s.heap s.heap [] := va_S.rf
  have hP : va_P (dC, dI) vwCl [(hi, .inr (2, [.ref qb, .int ic])), (qb, .inl (cI, 24, .inl ib))] s.heap := hP
  have hl := lv_entry ([.ref hi]) (n := 1) (Nat.le_of_ble_eq_true rfl)
  rw [lg_entry_eq]
  generalize (lg_sl ([.ref hi]) ++ List.replicate (1 - (lg_sl ([.ref hi])).length) Slot.unset).toArray = ls at hl ⊢
  have hl : lv_has ls 1 [(0, .ref hi)] := hl
  have inI : ∀ w ∈ u_ws R_I F_I 2, w ∈ w_I_lc := fun w h => List.mem_cons_of_mem _ (in_I w h)
  have kf9 := hts _ (List.mem_cons_of_mem _ wq84)
  rw [fI_lc] at hf
  refine lv_aload_n hx hb d_I_lc_0 rfl (lv_at hl 0 rfl) ?_
  refine va_get (D := (dC, dI)) (ci := 2) (v := .ref qb) (C := R_I) (T := F_I) (N := 2) hx hb hts inI hown hK hP 0 rfl rfl 0 (by decide) kf9 (fun _ h9 => h9) rfl d_I_lc_1 ?_
  refine lv_iconst (v := 4) hx hb d_I_lc_4 (by decide) ?_
  obtain ⟨hin_, hf⟩ := ix_some hf
  refine va_iald hx hb hK hP 1 0 rfl rfl hin_ d_I_lc_5 ?_
  have e1_ := lf1 hf
  subst e1_
  have hP9 := hP.sub (ws' := [(hi, .inr (2, [.ref qb, .int ic])), (qb, .inl (cI, 24, .inl ib))]) [0, 1] rfl
  have hD9 := hD.sub (ws' := [(hi, .inr (2, [.ref qb, .int ic])), (qb, .inl (cI, 24, .inl ib))]) [0, 1] (by decide) rfl
  exact W.iret (v := ib (4 : Int32).toNatClampNeg) hx hb hr (fun t ht hW => ⟨⟨ib (4 : Int32).toNatClampNeg, (), rfl, rfl, by rw [ht]; exact hP9, va_K.moved hW.alike hK, hD9⟩, hS.F ht⟩) hS.2.2 d_I_lc_6
theorem d_I_shape_0 : decode b_I_shape 0 = .ok (.aload_n 0, 1) := by decide +kernel
theorem d_I_shape_1 : decode b_I_shape 1 = .ok (.getfield 13, 3) := by decide +kernel
theorem d_I_shape_4 : decode b_I_shape 4 = .ok (.iconst 4, 1) := by decide +kernel
theorem d_I_shape_5 : decode b_I_shape 5 = .ok (.if_icmp .ge 5, 3) := by decide +kernel
theorem d_I_shape_8 : decode b_I_shape 8 = .ok (.iconst 0, 1) := by decide +kernel
theorem d_I_shape_9 : decode b_I_shape 9 = .ok (.ireturn, 1) := by decide +kernel
theorem d_I_shape_10 : decode b_I_shape 10 = .ok (.aload_n 0, 1) := by decide +kernel
theorem d_I_shape_11 : decode b_I_shape 11 = .ok (.getfield 13, 3) := by decide +kernel
theorem d_I_shape_14 : decode b_I_shape 14 = .ok (.iconst 4, 1) := by decide +kernel
theorem d_I_shape_15 : decode b_I_shape 15 = .ok (.if_icmp .ne 5, 3) := by decide +kernel
theorem d_I_shape_18 : decode b_I_shape 18 = .ok (.iconst 1, 1) := by decide +kernel
theorem d_I_shape_19 : decode b_I_shape 19 = .ok (.ireturn, 1) := by decide +kernel
theorem d_I_shape_20 : decode b_I_shape 20 = .ok (.aload_n 0, 1) := by decide +kernel
theorem d_I_shape_21 : decode b_I_shape 21 = .ok (.getfield 13, 3) := by decide +kernel
theorem d_I_shape_24 : decode b_I_shape 24 = .ok (.iconst 5, 1) := by decide +kernel
theorem d_I_shape_25 : decode b_I_shape 25 = .ok (.if_icmp .ne 5, 3) := by decide +kernel
theorem d_I_shape_28 : decode b_I_shape 28 = .ok (.iconst 2, 1) := by decide +kernel
theorem d_I_shape_29 : decode b_I_shape 29 = .ok (.ireturn, 1) := by decide +kernel
theorem d_I_shape_30 : decode b_I_shape 30 = .ok (.aload_n 0, 1) := by decide +kernel
theorem d_I_shape_31 : decode b_I_shape 31 = .ok (.invokevirtual 17, 3) := by decide +kernel
theorem d_I_shape_34 : decode b_I_shape 34 = .ok (.ifCond .ne 5, 3) := by decide +kernel
theorem d_I_shape_37 : decode b_I_shape 37 = .ok (.iconst 0, 1) := by decide +kernel
theorem d_I_shape_38 : decode b_I_shape 38 = .ok (.ireturn, 1) := by decide +kernel
theorem d_I_shape_39 : decode b_I_shape 39 = .ok (.aload_n 0, 1) := by decide +kernel
theorem d_I_shape_40 : decode b_I_shape 40 = .ok (.getfield 13, 3) := by decide +kernel
theorem d_I_shape_43 : decode b_I_shape 43 = .ok (.iconst 5, 1) := by decide +kernel
theorem d_I_shape_44 : decode b_I_shape 44 = .ok (.aload_n 0, 1) := by decide +kernel
theorem d_I_shape_45 : decode b_I_shape 45 = .ok (.invokevirtual 17, 3) := by decide +kernel
theorem d_I_shape_48 : decode b_I_shape 48 = .ok (.iadd, 1) := by decide +kernel
theorem d_I_shape_49 : decode b_I_shape 49 = .ok (.if_icmp .ne 5, 3) := by decide +kernel
theorem d_I_shape_52 : decode b_I_shape 52 = .ok (.iconst 3, 1) := by decide +kernel
theorem d_I_shape_53 : decode b_I_shape 53 = .ok (.ireturn, 1) := by decide +kernel
theorem d_I_shape_54 : decode b_I_shape 54 = .ok (.aload_n 0, 1) := by decide +kernel
theorem d_I_shape_55 : decode b_I_shape 55 = .ok (.getfield 13, 3) := by decide +kernel
theorem d_I_shape_58 : decode b_I_shape 58 = .ok (.iconst 5, 1) := by decide +kernel
theorem d_I_shape_59 : decode b_I_shape 59 = .ok (.aload_n 0, 1) := by decide +kernel
theorem d_I_shape_60 : decode b_I_shape 60 = .ok (.invokevirtual 17, 3) := by decide +kernel
theorem d_I_shape_63 : decode b_I_shape 63 = .ok (.iadd, 1) := by decide +kernel
theorem d_I_shape_64 : decode b_I_shape 64 = .ok (.iconst 1, 1) := by decide +kernel
theorem d_I_shape_65 : decode b_I_shape 65 = .ok (.iadd, 1) := by decide +kernel
theorem d_I_shape_66 : decode b_I_shape 66 = .ok (.if_icmp .ne 7, 3) := by decide +kernel
theorem d_I_shape_69 : decode b_I_shape 69 = .ok (.iconst 4, 1) := by decide +kernel
theorem d_I_shape_70 : decode b_I_shape 70 = .ok (.goto 4, 3) := by decide +kernel
theorem d_I_shape_73 : decode b_I_shape 73 = .ok (.iconst 0, 1) := by decide +kernel
theorem d_I_shape_74 : decode b_I_shape 74 = .ok (.ireturn, 1) := by decide +kernel
def fI_shape (σ : StI) : Option (Int32) := match σ with | (ib, ic) => if 4 ≤ ic then (if ic = 4 then (some 1) else (if ic = 5 then (some 2) else (bd1 (fI_lc (ib, ic)) fun r4 => if r4 = 0 then (some 0) else (bd1 (fI_lc (ib, ic)) fun r6 => if ic = (5 + r6) then (some 3) else (bd1 (fI_lc (ib, ic)) fun r8 => if ic = ((5 + r8) + 1) then (some 4) else (some 0)))))) else (some 0)
set_option maxHeartbeats 4000000 in
set_option maxRecDepth 100000 in
theorem ctI_shape (l : Launch) (dC : Nat → ClassId) (dI : Nat → Nat → Nat) (cI : ClassId) (hi qb : Nat) (ib : Nat → Int32) (ic : Int32) (r : Int32) (hf : fI_shape (ib, ic) = some r) : CtI l y_I_shape w_I_shape ({ frames := 1, cells := 0, slots := 0, locals := 20 }) (dC, dI) [(cI, .int)] [.ref hi] [(hi, .inr (2, [.ref qb, .int ic])), (qb, .inl (cI, 24, .inl ib))] [(hi, .inr (2, [.ref qb, .int ic])), (qb, .inl (cI, 24, .inl ib))] r := by
  intro sz
  refine Met.ofW (cc := b_I_shape) (maxL := 1) (ret := some .int) (by decide) rfl ?_
  intro p e s m args below meth c s₁ B hml hv
  obtain ⟨rfl, hsz, hP, hK, hD0⟩ := hv
  have hx := B.exec
  have hb := B.bytes
  have hr := B.returns
  have hts := atoms_spec (ws := w_I_shape) B.pre
  have hown : s.vm.findClass R_I = some m.cls := findClass_of_methodNamed B.named
  have hlocks := B.notSynchronized
  subst hsz
  have hD := hD0.self (sz := s.heap.size)
  generalize hAe : va_A [(hi, .inr (2, [.ref qb, .int ic])), (qb, .inl (cI, 24, .inl ib))] s.heap.size = A at hD ⊢
  have hA : ∀ q : Nat, s.heap.size ≤ q → A q := fun q h => by rw [← hAe]; exact Or.inr h
  have hS : va_S A s.heap s.heap [] := va_S.rf
  have hP : va_P (dC, dI) vwCl [(hi, .inr (2, [.ref qb, .int ic])), (qb, .inl (cI, 24, .inl ib))] s.heap := hP
  have hl := lv_entry ([.ref hi]) (n := 1) (Nat.le_of_ble_eq_true rfl)
  rw [lg_entry_eq]
  generalize (lg_sl ([.ref hi]) ++ List.replicate (1 - (lg_sl ([.ref hi])).length) Slot.unset).toArray = ls at hl ⊢
  have hl : lv_has ls 1 [(0, .ref hi)] := hl
  have inI : ∀ w ∈ u_ws R_I F_I 2, w ∈ w_I_shape := fun w h => List.mem_cons_of_mem _ (in_I w h)
  have kf13 := hts _ (List.mem_cons_of_mem _ wq85)
  rw [fI_shape] at hf
  refine lv_aload_n hx hb d_I_shape_0 rfl (lv_at hl 0 rfl) ?_
  refine va_get (D := (dC, dI)) (ci := 2) (v := .int ic) (C := R_I) (T := F_I) (N := 2) hx hb hts inI hown hK hP 0 rfl rfl 1 (by decide) kf13 (fun _ h9 => h9) rfl d_I_shape_1 ?_
  refine lv_iconst (v := 4) hx hb d_I_shape_4 (by decide) ?_
  refine lv_icmp_ge (tgt := 10) hx hb d_I_shape_5 rfl (fun hc1 => ?_) (fun hc1 => ?_)
  · have hf := ift hf hc1
    refine lv_aload_n hx hb d_I_shape_10 rfl (lv_at hl 0 rfl) ?_
    refine va_get (D := (dC, dI)) (ci := 2) (v := .int ic) (C := R_I) (T := F_I) (N := 2) hx hb hts inI hown hK hP 0 rfl rfl 1 (by decide) kf13 (fun _ h9 => h9) rfl d_I_shape_11 ?_
    refine lv_iconst (v := 4) hx hb d_I_shape_14 (by decide) ?_
    refine lv_icmp_ne (tgt := 20) hx hb d_I_shape_15 rfl (fun hc2 => ?_) (fun hc2 => ?_)
    · have hf := ifn hf hc2
      refine lv_aload_n hx hb d_I_shape_20 rfl (lv_at hl 0 rfl) ?_
      refine va_get (D := (dC, dI)) (ci := 2) (v := .int ic) (C := R_I) (T := F_I) (N := 2) hx hb hts inI hown hK hP 0 rfl rfl 1 (by decide) kf13 (fun _ h9 => h9) rfl d_I_shape_21 ?_
      refine lv_iconst (v := 5) hx hb d_I_shape_24 (by decide) ?_
      refine lv_icmp_ne (tgt := 30) hx hb d_I_shape_25 rfl (fun hc3 => ?_) (fun hc3 => ?_)
      · have hf := ifn hf hc3
        refine lv_aload_n hx hb d_I_shape_30 rfl (lv_at hl 0 rfl) ?_
        obtain ⟨r4, hg, hf⟩ := bd1_some hf
        refine xci (wr := []) (ctI_lc l dC dI cI hi qb ib ic r4 hg) ⟨hx, hb, hml, hown, hts⟩ (cwV (C := R_I) 0 hts (gV wq150 wq151 wq152 wq45 wq153) rfl rfl rfl (by decide +kernel) ⟨Nat.le_of_ble_eq_true rfl, Nat.le_of_ble_eq_true rfl⟩) hK hP hD hS hA [0, 1] [] rfl rfl rfl rfl (by decide) (ci := 2) (q0 := 0) rfl rfl rfl rfl hl.1 rfl (Nat.le_of_ble_eq_true rfl) d_I_shape_31 ⟨Nat.zero_le _, Nat.zero_le _⟩ (fun H locs hP hD hS => ?_)
        have hP : va_P (dC, dI) vwCl [(hi, .inr (2, [.ref qb, .int ic])), (qb, .inl (cI, 24, .inl ib))] H := hP
        have hD : va_D A [(hi, .inr (2, [.ref qb, .int ic])), (qb, .inl (cI, 24, .inl ib))] := hD
        refine lv_if_ne (tgt := 39) hx hb d_I_shape_34 rfl (fun hc5 => ?_) (fun hc5 => ?_)
        · have hf := ifn hf hc5
          refine lv_aload_n hx hb d_I_shape_39 rfl (lv_at hl 0 rfl) ?_
          refine va_get (D := (dC, dI)) (ci := 2) (v := .int ic) (C := R_I) (T := F_I) (N := 2) hx hb hts inI hown hK hP 0 rfl rfl 1 (by decide) kf13 (fun _ h9 => h9) rfl d_I_shape_40 ?_
          refine lv_iconst (v := 5) hx hb d_I_shape_43 (by decide) ?_
          refine lv_aload_n hx hb d_I_shape_44 rfl (lv_at hl 0 rfl) ?_
          obtain ⟨r6, hg, hf⟩ := bd1_some hf
          refine xci (wr := []) (ctI_lc l dC dI cI hi qb ib ic r6 hg) ⟨hx, hb, hml, hown, hts⟩ (cwV (C := R_I) 0 hts (gV wq150 wq151 wq152 wq45 wq153) rfl rfl rfl (by decide +kernel) ⟨Nat.le_of_ble_eq_true rfl, Nat.le_of_ble_eq_true rfl⟩) hK hP hD hS hA [0, 1] [] rfl rfl rfl rfl (by decide) (ci := 2) (q0 := 0) rfl rfl rfl rfl hl.1 rfl (Nat.le_of_ble_eq_true rfl) d_I_shape_45 ⟨Nat.zero_le _, Nat.zero_le _⟩ (fun H locs hP hD hS => ?_)
          have hP : va_P (dC, dI) vwCl [(hi, .inr (2, [.ref qb, .int ic])), (qb, .inl (cI, 24, .inl ib))] H := hP
          have hD : va_D A [(hi, .inr (2, [.ref qb, .int ic])), (qb, .inl (cI, 24, .inl ib))] := hD
          refine lv_iadd hx hb d_I_shape_48 ?_
          refine lv_icmp_ne (tgt := 54) hx hb d_I_shape_49 rfl (fun hc7 => ?_) (fun hc7 => ?_)
          · have hf := ifn hf hc7
            refine lv_aload_n hx hb d_I_shape_54 rfl (lv_at hl 0 rfl) ?_
            refine va_get (D := (dC, dI)) (ci := 2) (v := .int ic) (C := R_I) (T := F_I) (N := 2) hx hb hts inI hown hK hP 0 rfl rfl 1 (by decide) kf13 (fun _ h9 => h9) rfl d_I_shape_55 ?_
            refine lv_iconst (v := 5) hx hb d_I_shape_58 (by decide) ?_
            refine lv_aload_n hx hb d_I_shape_59 rfl (lv_at hl 0 rfl) ?_
            obtain ⟨r8, hg, hf⟩ := bd1_some hf
            refine xci (wr := []) (ctI_lc l dC dI cI hi qb ib ic r8 hg) ⟨hx, hb, hml, hown, hts⟩ (cwV (C := R_I) 0 hts (gV wq150 wq151 wq152 wq45 wq153) rfl rfl rfl (by decide +kernel) ⟨Nat.le_of_ble_eq_true rfl, Nat.le_of_ble_eq_true rfl⟩) hK hP hD hS hA [0, 1] [] rfl rfl rfl rfl (by decide) (ci := 2) (q0 := 0) rfl rfl rfl rfl hl.1 rfl (Nat.le_of_ble_eq_true rfl) d_I_shape_60 ⟨Nat.zero_le _, Nat.zero_le _⟩ (fun H locs hP hD hS => ?_)
            have hP : va_P (dC, dI) vwCl [(hi, .inr (2, [.ref qb, .int ic])), (qb, .inl (cI, 24, .inl ib))] H := hP
            have hD : va_D A [(hi, .inr (2, [.ref qb, .int ic])), (qb, .inl (cI, 24, .inl ib))] := hD
            refine lv_iadd hx hb d_I_shape_63 ?_
            refine lv_iconst (v := 1) hx hb d_I_shape_64 (by decide) ?_
            refine lv_iadd hx hb d_I_shape_65 ?_
            refine lv_icmp_ne (tgt := 73) hx hb d_I_shape_66 rfl (fun hc9 => ?_) (fun hc9 => ?_)
            · have hf := ifn hf hc9
              refine lv_iconst (v := 0) hx hb d_I_shape_73 (by decide) ?_
              have e1_ := lf1 hf
              subst e1_
              have hP9 := hP.sub (ws' := [(hi, .inr (2, [.ref qb, .int ic])), (qb, .inl (cI, 24, .inl ib))]) [0, 1] rfl
              have hD9 := hD.sub (ws' := [(hi, .inr (2, [.ref qb, .int ic])), (qb, .inl (cI, 24, .inl ib))]) [0, 1] (by decide) rfl
              exact W.iret (v := 0) hx hb hr (fun t ht hW => ⟨⟨0, (), rfl, rfl, by rw [ht]; exact hP9, va_K.moved hW.alike hK, hD9⟩, hS.F ht⟩) hS.2.2 d_I_shape_74
            have hf := ift hf hc9
            refine lv_iconst (v := 4) hx hb d_I_shape_69 (by decide) ?_
            refine lv_goto (tgt := 74) hx hb d_I_shape_70 rfl ?_
            have e1_ := lf1 hf
            subst e1_
            have hP9 := hP.sub (ws' := [(hi, .inr (2, [.ref qb, .int ic])), (qb, .inl (cI, 24, .inl ib))]) [0, 1] rfl
            have hD9 := hD.sub (ws' := [(hi, .inr (2, [.ref qb, .int ic])), (qb, .inl (cI, 24, .inl ib))]) [0, 1] (by decide) rfl
            exact W.iret (v := 4) hx hb hr (fun t ht hW => ⟨⟨4, (), rfl, rfl, by rw [ht]; exact hP9, va_K.moved hW.alike hK, hD9⟩, hS.F ht⟩) hS.2.2 d_I_shape_74
          have hf := ift hf hc7
          refine lv_iconst (v := 3) hx hb d_I_shape_52 (by decide) ?_
          have e1_ := lf1 hf
          subst e1_
          have hP9 := hP.sub (ws' := [(hi, .inr (2, [.ref qb, .int ic])), (qb, .inl (cI, 24, .inl ib))]) [0, 1] rfl
          have hD9 := hD.sub (ws' := [(hi, .inr (2, [.ref qb, .int ic])), (qb, .inl (cI, 24, .inl ib))]) [0, 1] (by decide) rfl
          exact W.iret (v := 3) hx hb hr (fun t ht hW => ⟨⟨3, (), rfl, rfl, by rw [ht]; exact hP9, va_K.moved hW.alike hK, hD9⟩, hS.F ht⟩) hS.2.2 d_I_shape_53
        have hf := ift hf hc5
        refine lv_iconst (v := 0) hx hb d_I_shape_37 (by decide) ?_
        have e1_ := lf1 hf
        subst e1_
        have hP9 := hP.sub (ws' := [(hi, .inr (2, [.ref qb, .int ic])), (qb, .inl (cI, 24, .inl ib))]) [0, 1] rfl
        have hD9 := hD.sub (ws' := [(hi, .inr (2, [.ref qb, .int ic])), (qb, .inl (cI, 24, .inl ib))]) [0, 1] (by decide) rfl
        exact W.iret (v := 0) hx hb hr (fun t ht hW => ⟨⟨0, (), rfl, rfl, by rw [ht]; exact hP9, va_K.moved hW.alike hK, hD9⟩, hS.F ht⟩) hS.2.2 d_I_shape_38
      have hf := ift hf hc3
      refine lv_iconst (v := 2) hx hb d_I_shape_28 (by decide) ?_
      have e1_ := lf1 hf
      subst e1_
      have hP9 := hP.sub (ws' := [(hi, .inr (2, [.ref qb, .int ic])), (qb, .inl (cI, 24, .inl ib))]) [0, 1] rfl
      have hD9 := hD.sub (ws' := [(hi, .inr (2, [.ref qb, .int ic])), (qb, .inl (cI, 24, .inl ib))]) [0, 1] (by decide) rfl
      exact W.iret (v := 2) hx hb hr (fun t ht hW => ⟨⟨2, (), rfl, rfl, by rw [ht]; exact hP9, va_K.moved hW.alike hK, hD9⟩, hS.F ht⟩) hS.2.2 d_I_shape_29
    have hf := ift hf hc2
    refine lv_iconst (v := 1) hx hb d_I_shape_18 (by decide) ?_
    have e1_ := lf1 hf
    subst e1_
    have hP9 := hP.sub (ws' := [(hi, .inr (2, [.ref qb, .int ic])), (qb, .inl (cI, 24, .inl ib))]) [0, 1] rfl
    have hD9 := hD.sub (ws' := [(hi, .inr (2, [.ref qb, .int ic])), (qb, .inl (cI, 24, .inl ib))]) [0, 1] (by decide) rfl
    exact W.iret (v := 1) hx hb hr (fun t ht hW => ⟨⟨1, (), rfl, rfl, by rw [ht]; exact hP9, va_K.moved hW.alike hK, hD9⟩, hS.F ht⟩) hS.2.2 d_I_shape_19
  have hf := ifn hf hc1
  refine lv_iconst (v := 0) hx hb d_I_shape_8 (by decide) ?_
  have e1_ := lf1 hf
  subst e1_
  have hP9 := hP.sub (ws' := [(hi, .inr (2, [.ref qb, .int ic])), (qb, .inl (cI, 24, .inl ib))]) [0, 1] rfl
  have hD9 := hD.sub (ws' := [(hi, .inr (2, [.ref qb, .int ic])), (qb, .inl (cI, 24, .inl ib))]) [0, 1] (by decide) rfl
  exact W.iret (v := 0) hx hb hr (fun t ht hW => ⟨⟨0, (), rfl, rfl, by rw [ht]; exact hP9, va_K.moved hW.alike hK, hD9⟩, hS.F ht⟩) hS.2.2 d_I_shape_9
theorem d_I_cardClass_0 : decode b_I_cardClass 0 = .ok (.aload_n 0, 1) := by decide +kernel
theorem d_I_cardClass_1 : decode b_I_cardClass 1 = .ok (.getfield 9, 3) := by decide +kernel
theorem d_I_cardClass_4 : decode b_I_cardClass 4 = .ok (.iconst 0, 1) := by decide +kernel
theorem d_I_cardClass_5 : decode b_I_cardClass 5 = .ok (.iaload, 1) := by decide +kernel
theorem d_I_cardClass_6 : decode b_I_cardClass 6 = .ok (.ireturn, 1) := by decide +kernel
def fI_cardClass (σ : StI) : Option (Int32) := match σ with | (ib, ic) => ix 0 24 fun j1 => some (ib j1)
set_option maxHeartbeats 4000000 in
set_option maxRecDepth 100000 in
theorem ctI_cardClass (l : Launch) (dC : Nat → ClassId) (dI : Nat → Nat → Nat) (cI : ClassId) (hi qb : Nat) (ib : Nat → Int32) (ic : Int32) (r : Int32) (hf : fI_cardClass (ib, ic) = some r) : CtI l y_I_cardClass w_I_cardClass ({ frames := 0, cells := 0, slots := 0, locals := 0 }) (dC, dI) [(cI, .int)] [.ref hi] [(hi, .inr (2, [.ref qb, .int ic])), (qb, .inl (cI, 24, .inl ib))] [(hi, .inr (2, [.ref qb, .int ic])), (qb, .inl (cI, 24, .inl ib))] r := by
  intro sz
  refine Met.ofW (cc := b_I_cardClass) (maxL := 1) (ret := some .int) (by decide) rfl ?_
  intro p e s m args below meth c s₁ B hml hv
  obtain ⟨rfl, hsz, hP, hK, hD0⟩ := hv
  have hx := B.exec
  have hb := B.bytes
  have hr := B.returns
  have hts := atoms_spec (ws := w_I_cardClass) B.pre
  have hown : s.vm.findClass R_I = some m.cls := findClass_of_methodNamed B.named
  have hlocks := B.notSynchronized
  subst hsz
  have hD := hD0.self (sz := s.heap.size)
  generalize hAe : va_A [(hi, .inr (2, [.ref qb, .int ic])), (qb, .inl (cI, 24, .inl ib))] s.heap.size = A at hD ⊢
  have hA : ∀ q : Nat, s.heap.size ≤ q → A q := fun q h => by rw [← hAe]; exact Or.inr h
  have hS : va_S A s.heap s.heap [] := va_S.rf
  have hP : va_P (dC, dI) vwCl [(hi, .inr (2, [.ref qb, .int ic])), (qb, .inl (cI, 24, .inl ib))] s.heap := hP
  have hl := lv_entry ([.ref hi]) (n := 1) (Nat.le_of_ble_eq_true rfl)
  rw [lg_entry_eq]
  generalize (lg_sl ([.ref hi]) ++ List.replicate (1 - (lg_sl ([.ref hi])).length) Slot.unset).toArray = ls at hl ⊢
  have hl : lv_has ls 1 [(0, .ref hi)] := hl
  have inI : ∀ w ∈ u_ws R_I F_I 2, w ∈ w_I_cardClass := fun w h => List.mem_cons_of_mem _ (in_I w h)
  have kf9 := hts _ (List.mem_cons_of_mem _ wq84)
  rw [fI_cardClass] at hf
  refine lv_aload_n hx hb d_I_cardClass_0 rfl (lv_at hl 0 rfl) ?_
  refine va_get (D := (dC, dI)) (ci := 2) (v := .ref qb) (C := R_I) (T := F_I) (N := 2) hx hb hts inI hown hK hP 0 rfl rfl 0 (by decide) kf9 (fun _ h9 => h9) rfl d_I_cardClass_1 ?_
  refine lv_iconst (v := 0) hx hb d_I_cardClass_4 (by decide) ?_
  obtain ⟨hin_, hf⟩ := ix_some hf
  refine va_iald hx hb hK hP 1 0 rfl rfl hin_ d_I_cardClass_5 ?_
  have e1_ := lf1 hf
  subst e1_
  have hP9 := hP.sub (ws' := [(hi, .inr (2, [.ref qb, .int ic])), (qb, .inl (cI, 24, .inl ib))]) [0, 1] rfl
  have hD9 := hD.sub (ws' := [(hi, .inr (2, [.ref qb, .int ic])), (qb, .inl (cI, 24, .inl ib))]) [0, 1] (by decide) rfl
  exact W.iret (v := ib (0 : Int32).toNatClampNeg) hx hb hr (fun t ht hW => ⟨⟨ib (0 : Int32).toNatClampNeg, (), rfl, rfl, by rw [ht]; exact hP9, va_K.moved hW.alike hK, hD9⟩, hS.F ht⟩) hS.2.2 d_I_cardClass_6
theorem d_I_instruction_0 : decode b_I_instruction 0 = .ok (.aload_n 0, 1) := by decide +kernel
theorem d_I_instruction_1 : decode b_I_instruction 1 = .ok (.getfield 9, 3) := by decide +kernel
theorem d_I_instruction_4 : decode b_I_instruction 4 = .ok (.iconst 1, 1) := by decide +kernel
theorem d_I_instruction_5 : decode b_I_instruction 5 = .ok (.iaload, 1) := by decide +kernel
theorem d_I_instruction_6 : decode b_I_instruction 6 = .ok (.ireturn, 1) := by decide +kernel
def fI_instruction (σ : StI) : Option (Int32) := match σ with | (ib, ic) => ix 1 24 fun j1 => some (ib j1)
set_option maxHeartbeats 4000000 in
set_option maxRecDepth 100000 in
theorem ctI_instruction (l : Launch) (dC : Nat → ClassId) (dI : Nat → Nat → Nat) (cI : ClassId) (hi qb : Nat) (ib : Nat → Int32) (ic : Int32) (r : Int32) (hf : fI_instruction (ib, ic) = some r) : CtI l y_I_instruction w_I_instruction ({ frames := 0, cells := 0, slots := 0, locals := 0 }) (dC, dI) [(cI, .int)] [.ref hi] [(hi, .inr (2, [.ref qb, .int ic])), (qb, .inl (cI, 24, .inl ib))] [(hi, .inr (2, [.ref qb, .int ic])), (qb, .inl (cI, 24, .inl ib))] r := by
  intro sz
  refine Met.ofW (cc := b_I_instruction) (maxL := 1) (ret := some .int) (by decide) rfl ?_
  intro p e s m args below meth c s₁ B hml hv
  obtain ⟨rfl, hsz, hP, hK, hD0⟩ := hv
  have hx := B.exec
  have hb := B.bytes
  have hr := B.returns
  have hts := atoms_spec (ws := w_I_instruction) B.pre
  have hown : s.vm.findClass R_I = some m.cls := findClass_of_methodNamed B.named
  have hlocks := B.notSynchronized
  subst hsz
  have hD := hD0.self (sz := s.heap.size)
  generalize hAe : va_A [(hi, .inr (2, [.ref qb, .int ic])), (qb, .inl (cI, 24, .inl ib))] s.heap.size = A at hD ⊢
  have hA : ∀ q : Nat, s.heap.size ≤ q → A q := fun q h => by rw [← hAe]; exact Or.inr h
  have hS : va_S A s.heap s.heap [] := va_S.rf
  have hP : va_P (dC, dI) vwCl [(hi, .inr (2, [.ref qb, .int ic])), (qb, .inl (cI, 24, .inl ib))] s.heap := hP
  have hl := lv_entry ([.ref hi]) (n := 1) (Nat.le_of_ble_eq_true rfl)
  rw [lg_entry_eq]
  generalize (lg_sl ([.ref hi]) ++ List.replicate (1 - (lg_sl ([.ref hi])).length) Slot.unset).toArray = ls at hl ⊢
  have hl : lv_has ls 1 [(0, .ref hi)] := hl
  have inI : ∀ w ∈ u_ws R_I F_I 2, w ∈ w_I_instruction := fun w h => List.mem_cons_of_mem _ (in_I w h)
  have kf9 := hts _ (List.mem_cons_of_mem _ wq84)
  rw [fI_instruction] at hf
  refine lv_aload_n hx hb d_I_instruction_0 rfl (lv_at hl 0 rfl) ?_
  refine va_get (D := (dC, dI)) (ci := 2) (v := .ref qb) (C := R_I) (T := F_I) (N := 2) hx hb hts inI hown hK hP 0 rfl rfl 0 (by decide) kf9 (fun _ h9 => h9) rfl d_I_instruction_1 ?_
  refine lv_iconst (v := 1) hx hb d_I_instruction_4 (by decide) ?_
  obtain ⟨hin_, hf⟩ := ix_some hf
  refine va_iald hx hb hK hP 1 0 rfl rfl hin_ d_I_instruction_5 ?_
  have e1_ := lf1 hf
  subst e1_
  have hP9 := hP.sub (ws' := [(hi, .inr (2, [.ref qb, .int ic])), (qb, .inl (cI, 24, .inl ib))]) [0, 1] rfl
  have hD9 := hD.sub (ws' := [(hi, .inr (2, [.ref qb, .int ic])), (qb, .inl (cI, 24, .inl ib))]) [0, 1] (by decide) rfl
  exact W.iret (v := ib (1 : Int32).toNatClampNeg) hx hb hr (fun t ht hW => ⟨⟨ib (1 : Int32).toNatClampNeg, (), rfl, rfl, by rw [ht]; exact hP9, va_K.moved hW.alike hK, hD9⟩, hS.F ht⟩) hS.2.2 d_I_instruction_6
theorem d_I_p1_0 : decode b_I_p1 0 = .ok (.aload_n 0, 1) := by decide +kernel
theorem d_I_p1_1 : decode b_I_p1 1 = .ok (.getfield 9, 3) := by decide +kernel
theorem d_I_p1_4 : decode b_I_p1 4 = .ok (.iconst 2, 1) := by decide +kernel
theorem d_I_p1_5 : decode b_I_p1 5 = .ok (.iaload, 1) := by decide +kernel
theorem d_I_p1_6 : decode b_I_p1 6 = .ok (.ireturn, 1) := by decide +kernel
def fI_p1 (σ : StI) : Option (Int32) := match σ with | (ib, ic) => ix 2 24 fun j1 => some (ib j1)
set_option maxHeartbeats 4000000 in
set_option maxRecDepth 100000 in
theorem ctI_p1 (l : Launch) (dC : Nat → ClassId) (dI : Nat → Nat → Nat) (cI : ClassId) (hi qb : Nat) (ib : Nat → Int32) (ic : Int32) (r : Int32) (hf : fI_p1 (ib, ic) = some r) : CtI l y_I_p1 w_I_p1 ({ frames := 0, cells := 0, slots := 0, locals := 0 }) (dC, dI) [(cI, .int)] [.ref hi] [(hi, .inr (2, [.ref qb, .int ic])), (qb, .inl (cI, 24, .inl ib))] [(hi, .inr (2, [.ref qb, .int ic])), (qb, .inl (cI, 24, .inl ib))] r := by
  intro sz
  refine Met.ofW (cc := b_I_p1) (maxL := 1) (ret := some .int) (by decide) rfl ?_
  intro p e s m args below meth c s₁ B hml hv
  obtain ⟨rfl, hsz, hP, hK, hD0⟩ := hv
  have hx := B.exec
  have hb := B.bytes
  have hr := B.returns
  have hts := atoms_spec (ws := w_I_p1) B.pre
  have hown : s.vm.findClass R_I = some m.cls := findClass_of_methodNamed B.named
  have hlocks := B.notSynchronized
  subst hsz
  have hD := hD0.self (sz := s.heap.size)
  generalize hAe : va_A [(hi, .inr (2, [.ref qb, .int ic])), (qb, .inl (cI, 24, .inl ib))] s.heap.size = A at hD ⊢
  have hA : ∀ q : Nat, s.heap.size ≤ q → A q := fun q h => by rw [← hAe]; exact Or.inr h
  have hS : va_S A s.heap s.heap [] := va_S.rf
  have hP : va_P (dC, dI) vwCl [(hi, .inr (2, [.ref qb, .int ic])), (qb, .inl (cI, 24, .inl ib))] s.heap := hP
  have hl := lv_entry ([.ref hi]) (n := 1) (Nat.le_of_ble_eq_true rfl)
  rw [lg_entry_eq]
  generalize (lg_sl ([.ref hi]) ++ List.replicate (1 - (lg_sl ([.ref hi])).length) Slot.unset).toArray = ls at hl ⊢
  have hl : lv_has ls 1 [(0, .ref hi)] := hl
  have inI : ∀ w ∈ u_ws R_I F_I 2, w ∈ w_I_p1 := fun w h => List.mem_cons_of_mem _ (in_I w h)
  have kf9 := hts _ (List.mem_cons_of_mem _ wq84)
  rw [fI_p1] at hf
  refine lv_aload_n hx hb d_I_p1_0 rfl (lv_at hl 0 rfl) ?_
  refine va_get (D := (dC, dI)) (ci := 2) (v := .ref qb) (C := R_I) (T := F_I) (N := 2) hx hb hts inI hown hK hP 0 rfl rfl 0 (by decide) kf9 (fun _ h9 => h9) rfl d_I_p1_1 ?_
  refine lv_iconst (v := 2) hx hb d_I_p1_4 (by decide) ?_
  obtain ⟨hin_, hf⟩ := ix_some hf
  refine va_iald hx hb hK hP 1 0 rfl rfl hin_ d_I_p1_5 ?_
  have e1_ := lf1 hf
  subst e1_
  have hP9 := hP.sub (ws' := [(hi, .inr (2, [.ref qb, .int ic])), (qb, .inl (cI, 24, .inl ib))]) [0, 1] rfl
  have hD9 := hD.sub (ws' := [(hi, .inr (2, [.ref qb, .int ic])), (qb, .inl (cI, 24, .inl ib))]) [0, 1] (by decide) rfl
  exact W.iret (v := ib (2 : Int32).toNatClampNeg) hx hb hr (fun t ht hW => ⟨⟨ib (2 : Int32).toNatClampNeg, (), rfl, rfl, by rw [ht]; exact hP9, va_K.moved hW.alike hK, hD9⟩, hS.F ht⟩) hS.2.2 d_I_p1_6
theorem d_I_p2_0 : decode b_I_p2 0 = .ok (.aload_n 0, 1) := by decide +kernel
theorem d_I_p2_1 : decode b_I_p2 1 = .ok (.getfield 9, 3) := by decide +kernel
theorem d_I_p2_4 : decode b_I_p2 4 = .ok (.iconst 3, 1) := by decide +kernel
theorem d_I_p2_5 : decode b_I_p2 5 = .ok (.iaload, 1) := by decide +kernel
theorem d_I_p2_6 : decode b_I_p2 6 = .ok (.ireturn, 1) := by decide +kernel
def fI_p2 (σ : StI) : Option (Int32) := match σ with | (ib, ic) => ix 3 24 fun j1 => some (ib j1)
set_option maxHeartbeats 4000000 in
set_option maxRecDepth 100000 in
theorem ctI_p2 (l : Launch) (dC : Nat → ClassId) (dI : Nat → Nat → Nat) (cI : ClassId) (hi qb : Nat) (ib : Nat → Int32) (ic : Int32) (r : Int32) (hf : fI_p2 (ib, ic) = some r) : CtI l y_I_p2 w_I_p2 ({ frames := 0, cells := 0, slots := 0, locals := 0 }) (dC, dI) [(cI, .int)] [.ref hi] [(hi, .inr (2, [.ref qb, .int ic])), (qb, .inl (cI, 24, .inl ib))] [(hi, .inr (2, [.ref qb, .int ic])), (qb, .inl (cI, 24, .inl ib))] r := by
  intro sz
  refine Met.ofW (cc := b_I_p2) (maxL := 1) (ret := some .int) (by decide) rfl ?_
  intro p e s m args below meth c s₁ B hml hv
  obtain ⟨rfl, hsz, hP, hK, hD0⟩ := hv
  have hx := B.exec
  have hb := B.bytes
  have hr := B.returns
  have hts := atoms_spec (ws := w_I_p2) B.pre
  have hown : s.vm.findClass R_I = some m.cls := findClass_of_methodNamed B.named
  have hlocks := B.notSynchronized
  subst hsz
  have hD := hD0.self (sz := s.heap.size)
  generalize hAe : va_A [(hi, .inr (2, [.ref qb, .int ic])), (qb, .inl (cI, 24, .inl ib))] s.heap.size = A at hD ⊢
  have hA : ∀ q : Nat, s.heap.size ≤ q → A q := fun q h => by rw [← hAe]; exact Or.inr h
  have hS : va_S A s.heap s.heap [] := va_S.rf
  have hP : va_P (dC, dI) vwCl [(hi, .inr (2, [.ref qb, .int ic])), (qb, .inl (cI, 24, .inl ib))] s.heap := hP
  have hl := lv_entry ([.ref hi]) (n := 1) (Nat.le_of_ble_eq_true rfl)
  rw [lg_entry_eq]
  generalize (lg_sl ([.ref hi]) ++ List.replicate (1 - (lg_sl ([.ref hi])).length) Slot.unset).toArray = ls at hl ⊢
  have hl : lv_has ls 1 [(0, .ref hi)] := hl
  have inI : ∀ w ∈ u_ws R_I F_I 2, w ∈ w_I_p2 := fun w h => List.mem_cons_of_mem _ (in_I w h)
  have kf9 := hts _ (List.mem_cons_of_mem _ wq84)
  rw [fI_p2] at hf
  refine lv_aload_n hx hb d_I_p2_0 rfl (lv_at hl 0 rfl) ?_
  refine va_get (D := (dC, dI)) (ci := 2) (v := .ref qb) (C := R_I) (T := F_I) (N := 2) hx hb hts inI hown hK hP 0 rfl rfl 0 (by decide) kf9 (fun _ h9 => h9) rfl d_I_p2_1 ?_
  refine lv_iconst (v := 3) hx hb d_I_p2_4 (by decide) ?_
  obtain ⟨hin_, hf⟩ := ix_some hf
  refine va_iald hx hb hK hP 1 0 rfl rfl hin_ d_I_p2_5 ?_
  have e1_ := lf1 hf
  subst e1_
  have hP9 := hP.sub (ws' := [(hi, .inr (2, [.ref qb, .int ic])), (qb, .inl (cI, 24, .inl ib))]) [0, 1] rfl
  have hD9 := hD.sub (ws' := [(hi, .inr (2, [.ref qb, .int ic])), (qb, .inl (cI, 24, .inl ib))]) [0, 1] (by decide) rfl
  exact W.iret (v := ib (3 : Int32).toNatClampNeg) hx hb hr (fun t ht hW => ⟨⟨ib (3 : Int32).toNatClampNeg, (), rfl, rfl, by rw [ht]; exact hP9, va_K.moved hW.alike hK, hD9⟩, hS.F ht⟩) hS.2.2 d_I_p2_6
theorem d_I_le_0 : decode b_I_le 0 = .ok (.aload_n 0, 1) := by decide +kernel
theorem d_I_le_1 : decode b_I_le 1 = .ok (.getfield 9, 3) := by decide +kernel
theorem d_I_le_4 : decode b_I_le 4 = .ok (.iconst 4, 1) := by decide +kernel
theorem d_I_le_5 : decode b_I_le 5 = .ok (.iaload, 1) := by decide +kernel
theorem d_I_le_6 : decode b_I_le 6 = .ok (.ifCond .ne 9, 3) := by decide +kernel
theorem d_I_le_9 : decode b_I_le 9 = .ok (.sipush 256, 3) := by decide +kernel
theorem d_I_le_12 : decode b_I_le 12 = .ok (.goto 9, 3) := by decide +kernel
theorem d_I_le_15 : decode b_I_le 15 = .ok (.aload_n 0, 1) := by decide +kernel
theorem d_I_le_16 : decode b_I_le 16 = .ok (.getfield 9, 3) := by decide +kernel
theorem d_I_le_19 : decode b_I_le 19 = .ok (.iconst 4, 1) := by decide +kernel
theorem d_I_le_20 : decode b_I_le 20 = .ok (.iaload, 1) := by decide +kernel
theorem d_I_le_21 : decode b_I_le 21 = .ok (.ireturn, 1) := by decide +kernel
def fI_le (σ : StI) : Option (Int32) := match σ with | (ib, ic) => ix 4 24 fun j1 => if (ib j1) = 0 then (some 256) else (ix 4 24 fun j3 => some (ib j3))
set_option maxHeartbeats 4000000 in
set_option maxRecDepth 100000 in
theorem ctI_le (l : Launch) (dC : Nat → ClassId) (dI : Nat → Nat → Nat) (cI : ClassId) (hi qb : Nat) (ib : Nat → Int32) (ic : Int32) (r : Int32) (hf : fI_le (ib, ic) = some r) : CtI l y_I_le w_I_le ({ frames := 0, cells := 0, slots := 0, locals := 0 }) (dC, dI) [(cI, .int)] [.ref hi] [(hi, .inr (2, [.ref qb, .int ic])), (qb, .inl (cI, 24, .inl ib))] [(hi, .inr (2, [.ref qb, .int ic])), (qb, .inl (cI, 24, .inl ib))] r := by
  intro sz
  refine Met.ofW (cc := b_I_le) (maxL := 1) (ret := some .int) (by decide) rfl ?_
  intro p e s m args below meth c s₁ B hml hv
  obtain ⟨rfl, hsz, hP, hK, hD0⟩ := hv
  have hx := B.exec
  have hb := B.bytes
  have hr := B.returns
  have hts := atoms_spec (ws := w_I_le) B.pre
  have hown : s.vm.findClass R_I = some m.cls := findClass_of_methodNamed B.named
  have hlocks := B.notSynchronized
  subst hsz
  have hD := hD0.self (sz := s.heap.size)
  generalize hAe : va_A [(hi, .inr (2, [.ref qb, .int ic])), (qb, .inl (cI, 24, .inl ib))] s.heap.size = A at hD ⊢
  have hA : ∀ q : Nat, s.heap.size ≤ q → A q := fun q h => by rw [← hAe]; exact Or.inr h
  have hS : va_S A s.heap s.heap [] := va_S.rf
  have hP : va_P (dC, dI) vwCl [(hi, .inr (2, [.ref qb, .int ic])), (qb, .inl (cI, 24, .inl ib))] s.heap := hP
  have hl := lv_entry ([.ref hi]) (n := 1) (Nat.le_of_ble_eq_true rfl)
  rw [lg_entry_eq]
  generalize (lg_sl ([.ref hi]) ++ List.replicate (1 - (lg_sl ([.ref hi])).length) Slot.unset).toArray = ls at hl ⊢
  have hl : lv_has ls 1 [(0, .ref hi)] := hl
  have inI : ∀ w ∈ u_ws R_I F_I 2, w ∈ w_I_le := fun w h => List.mem_cons_of_mem _ (in_I w h)
  have kf9 := hts _ (List.mem_cons_of_mem _ wq84)
  rw [fI_le] at hf
  refine lv_aload_n hx hb d_I_le_0 rfl (lv_at hl 0 rfl) ?_
  refine va_get (D := (dC, dI)) (ci := 2) (v := .ref qb) (C := R_I) (T := F_I) (N := 2) hx hb hts inI hown hK hP 0 rfl rfl 0 (by decide) kf9 (fun _ h9 => h9) rfl d_I_le_1 ?_
  refine lv_iconst (v := 4) hx hb d_I_le_4 (by decide) ?_
  obtain ⟨hin_, hf⟩ := ix_some hf
  refine va_iald hx hb hK hP 1 0 rfl rfl hin_ d_I_le_5 ?_
  refine lv_if_ne (tgt := 15) hx hb d_I_le_6 rfl (fun hc2 => ?_) (fun hc2 => ?_)
  · have hf := ifn hf hc2
    refine lv_aload_n hx hb d_I_le_15 rfl (lv_at hl 0 rfl) ?_
    refine va_get (D := (dC, dI)) (ci := 2) (v := .ref qb) (C := R_I) (T := F_I) (N := 2) hx hb hts inI hown hK hP 0 rfl rfl 0 (by decide) kf9 (fun _ h9 => h9) rfl d_I_le_16 ?_
    refine lv_iconst (v := 4) hx hb d_I_le_19 (by decide) ?_
    obtain ⟨hin_, hf⟩ := ix_some hf
    refine va_iald hx hb hK hP 1 0 rfl rfl hin_ d_I_le_20 ?_
    have e1_ := lf1 hf
    subst e1_
    have hP9 := hP.sub (ws' := [(hi, .inr (2, [.ref qb, .int ic])), (qb, .inl (cI, 24, .inl ib))]) [0, 1] rfl
    have hD9 := hD.sub (ws' := [(hi, .inr (2, [.ref qb, .int ic])), (qb, .inl (cI, 24, .inl ib))]) [0, 1] (by decide) rfl
    exact W.iret (v := ib (4 : Int32).toNatClampNeg) hx hb hr (fun t ht hW => ⟨⟨ib (4 : Int32).toNatClampNeg, (), rfl, rfl, by rw [ht]; exact hP9, va_K.moved hW.alike hK, hD9⟩, hS.F ht⟩) hS.2.2 d_I_le_21
  have hf := ift hf hc2
  refine lv_sipush (v := 256) hx hb d_I_le_9 (by decide) ?_
  refine lv_goto (tgt := 21) hx hb d_I_le_12 rfl ?_
  have e1_ := lf1 hf
  subst e1_
  have hP9 := hP.sub (ws' := [(hi, .inr (2, [.ref qb, .int ic])), (qb, .inl (cI, 24, .inl ib))]) [0, 1] rfl
  have hD9 := hD.sub (ws' := [(hi, .inr (2, [.ref qb, .int ic])), (qb, .inl (cI, 24, .inl ib))]) [0, 1] (by decide) rfl
  exact W.iret (v := 256) hx hb hr (fun t ht hW => ⟨⟨256, (), rfl, rfl, by rw [ht]; exact hP9, va_K.moved hW.alike hK, hD9⟩, hS.F ht⟩) hS.2.2 d_I_le_21
theorem d_I_payload_0 : decode b_I_payload 0 = .ok (.aload_n 0, 1) := by decide +kernel
theorem d_I_payload_1 : decode b_I_payload 1 = .ok (.getfield 9, 3) := by decide +kernel
theorem d_I_payload_4 : decode b_I_payload 4 = .ok (.iconst 5, 1) := by decide +kernel
theorem d_I_payload_5 : decode b_I_payload 5 = .ok (.iload_n 1, 1) := by decide +kernel
theorem d_I_payload_6 : decode b_I_payload 6 = .ok (.iadd, 1) := by decide +kernel
theorem d_I_payload_7 : decode b_I_payload 7 = .ok (.iaload, 1) := by decide +kernel
theorem d_I_payload_8 : decode b_I_payload 8 = .ok (.ireturn, 1) := by decide +kernel
def fI_payload (σ : StI) (a1 : Int32) : Option (Int32) := match σ with | (ib, ic) => ix (5 + a1) 24 fun j1 => some (ib j1)
set_option maxHeartbeats 4000000 in
set_option maxRecDepth 100000 in
theorem ctI_payload (l : Launch) (dC : Nat → ClassId) (dI : Nat → Nat → Nat) (cI : ClassId) (hi qb : Nat) (ib : Nat → Int32) (ic : Int32) (a1 : Int32) (r : Int32) (hf : fI_payload (ib, ic) a1 = some r) : CtI l y_I_payload w_I_payload ({ frames := 0, cells := 0, slots := 0, locals := 0 }) (dC, dI) [(cI, .int)] [.ref hi, .int a1] [(hi, .inr (2, [.ref qb, .int ic])), (qb, .inl (cI, 24, .inl ib))] [(hi, .inr (2, [.ref qb, .int ic])), (qb, .inl (cI, 24, .inl ib))] r := by
  intro sz
  refine Met.ofW (cc := b_I_payload) (maxL := 2) (ret := some .int) (by decide) rfl ?_
  intro p e s m args below meth c s₁ B hml hv
  obtain ⟨rfl, hsz, hP, hK, hD0⟩ := hv
  have hx := B.exec
  have hb := B.bytes
  have hr := B.returns
  have hts := atoms_spec (ws := w_I_payload) B.pre
  have hown : s.vm.findClass R_I = some m.cls := findClass_of_methodNamed B.named
  have hlocks := B.notSynchronized
  subst hsz
  have hD := hD0.self (sz := s.heap.size)
  generalize hAe : va_A [(hi, .inr (2, [.ref qb, .int ic])), (qb, .inl (cI, 24, .inl ib))] s.heap.size = A at hD ⊢
  have hA : ∀ q : Nat, s.heap.size ≤ q → A q := fun q h => by rw [← hAe]; exact Or.inr h
  have hS : va_S A s.heap s.heap [] := va_S.rf
  have hP : va_P (dC, dI) vwCl [(hi, .inr (2, [.ref qb, .int ic])), (qb, .inl (cI, 24, .inl ib))] s.heap := hP
  have hl := lv_entry ([.ref hi, .int a1]) (n := 2) (Nat.le_of_ble_eq_true rfl)
  rw [lg_entry_eq]
  generalize (lg_sl ([.ref hi, .int a1]) ++ List.replicate (2 - (lg_sl ([.ref hi, .int a1])).length) Slot.unset).toArray = ls at hl ⊢
  have hl : lv_has ls 2 [(0, .ref hi), (1, .int a1)] := hl
  have inI : ∀ w ∈ u_ws R_I F_I 2, w ∈ w_I_payload := fun w h => List.mem_cons_of_mem _ (in_I w h)
  have kf9 := hts _ (List.mem_cons_of_mem _ wq84)
  rw [fI_payload] at hf
  refine lv_aload_n hx hb d_I_payload_0 rfl (lv_at hl 0 rfl) ?_
  refine va_get (D := (dC, dI)) (ci := 2) (v := .ref qb) (C := R_I) (T := F_I) (N := 2) hx hb hts inI hown hK hP 0 rfl rfl 0 (by decide) kf9 (fun _ h9 => h9) rfl d_I_payload_1 ?_
  refine lv_iconst (v := 5) hx hb d_I_payload_4 (by decide) ?_
  refine lv_iload_n hx hb d_I_payload_5 rfl (lv_at hl 1 rfl) ?_
  refine lv_iadd hx hb d_I_payload_6 ?_
  obtain ⟨hin_, hf⟩ := ix_some hf
  refine va_iald hx hb hK hP 1 0 rfl rfl hin_ d_I_payload_7 ?_
  have e1_ := lf1 hf
  subst e1_
  have hP9 := hP.sub (ws' := [(hi, .inr (2, [.ref qb, .int ic])), (qb, .inl (cI, 24, .inl ib))]) [0, 1] rfl
  have hD9 := hD.sub (ws' := [(hi, .inr (2, [.ref qb, .int ic])), (qb, .inl (cI, 24, .inl ib))]) [0, 1] (by decide) rfl
  exact W.iret (v := ib (5 + a1 : Int32).toNatClampNeg) hx hb hr (fun t ht hW => ⟨⟨ib (5 + a1 : Int32).toNatClampNeg, (), rfl, rfl, by rw [ht]; exact hP9, va_K.moved hW.alike hK, hD9⟩, hS.F ht⟩) hS.2.2 d_I_payload_8
theorem d_I_row_0 : decode b_I_row 0 = .ok (.aload_n 0, 1) := by decide +kernel
theorem d_I_row_1 : decode b_I_row 1 = .ok (.getfield 9, 3) := by decide +kernel
theorem d_I_row_4 : decode b_I_row 4 = .ok (.areturn, 1) := by decide +kernel
set_option maxHeartbeats 4000000 in
set_option maxRecDepth 100000 in
theorem ctI_row (l : Launch) (dC : Nat → ClassId) (dI : Nat → Nat → Nat) (cI : ClassId) (hi qb : Nat) (ib : Nat → Int32) (ic : Int32) : CtR l y_I_row w_I_row ({ frames := 0, cells := 0, slots := 0, locals := 0 }) (dC, dI) [(cI, .int)] [.ref hi] [(hi, .inr (2, [.ref qb, .int ic])), (qb, .inl (cI, 24, .inl ib))] [(hi, .inr (2, [.ref qb, .int ic])), (qb, .inl (cI, 24, .inl ib))] qb := by
  intro sz
  refine Met.ofW (cc := b_I_row) (maxL := 1) (ret := some (.array .int)) (by decide) rfl ?_
  intro p e s m args below meth c s₁ B hml hv
  obtain ⟨rfl, hsz, hP, hK, hD0⟩ := hv
  have hx := B.exec
  have hb := B.bytes
  have hr := B.returns
  have hts := atoms_spec (ws := w_I_row) B.pre
  have hown : s.vm.findClass R_I = some m.cls := findClass_of_methodNamed B.named
  have hlocks := B.notSynchronized
  subst hsz
  have hD := hD0.self (sz := s.heap.size)
  generalize hAe : va_A [(hi, .inr (2, [.ref qb, .int ic])), (qb, .inl (cI, 24, .inl ib))] s.heap.size = A at hD ⊢
  have hA : ∀ q : Nat, s.heap.size ≤ q → A q := fun q h => by rw [← hAe]; exact Or.inr h
  have hS : va_S A s.heap s.heap [] := va_S.rf
  have hP : va_P (dC, dI) vwCl [(hi, .inr (2, [.ref qb, .int ic])), (qb, .inl (cI, 24, .inl ib))] s.heap := hP
  have hl := lv_entry ([.ref hi]) (n := 1) (Nat.le_of_ble_eq_true rfl)
  rw [lg_entry_eq]
  generalize (lg_sl ([.ref hi]) ++ List.replicate (1 - (lg_sl ([.ref hi])).length) Slot.unset).toArray = ls at hl ⊢
  have hl : lv_has ls 1 [(0, .ref hi)] := hl
  have inI : ∀ w ∈ u_ws R_I F_I 2, w ∈ w_I_row := fun w h => List.mem_cons_of_mem _ (in_I w h)
  have kf9 := hts _ (List.mem_cons_of_mem _ wq84)
  refine lv_aload_n hx hb d_I_row_0 rfl (lv_at hl 0 rfl) ?_
  refine va_get (D := (dC, dI)) (ci := 2) (v := .ref qb) (C := R_I) (T := F_I) (N := 2) hx hb hts inI hown hK hP 0 rfl rfl 0 (by decide) kf9 (fun _ h9 => h9) rfl d_I_row_1 ?_
  have hP9 := hP.sub (ws' := [(hi, .inr (2, [.ref qb, .int ic])), (qb, .inl (cI, 24, .inl ib))]) [0, 1] rfl
  have hD9 := hD.sub (ws' := [(hi, .inr (2, [.ref qb, .int ic])), (qb, .inl (cI, 24, .inl ib))]) [0, 1] (by decide) rfl
  exact W.aret (v := .ref qb) hx hb hr (Or.inr ⟨_, rfl⟩) (Or.inr ⟨_, rfl⟩) (fun t ht hW => ⟨⟨(), qb, rfl, trivial, rfl, by rw [ht]; exact hP9, va_K.moved hW.alike hK, hD9⟩, hS.F ht⟩) hS.2.2 d_I_row_4
end
section
theorem d_E_withCode_0 : decode b_E_withCode 0 = .ok (.iconst 0, 1) := by decide +kernel
theorem d_E_withCode_1 : decode b_E_withCode 1 = .ok (.istore_n 1, 1) := by decide +kernel
theorem d_E_withCode_2 : decode b_E_withCode 2 = .ok (.iload_n 1, 1) := by decide +kernel
theorem d_E_withCode_3 : decode b_E_withCode 3 = .ok (.getstatic 82, 3) := by decide +kernel
theorem d_E_withCode_6 : decode b_E_withCode 6 = .ok (.arraylength, 1) := by decide +kernel
theorem d_E_withCode_7 : decode b_E_withCode 7 = .ok (.if_icmp .ge 27, 3) := by decide +kernel
theorem d_E_withCode_10 : decode b_E_withCode 10 = .ok (.getstatic 82, 3) := by decide +kernel
theorem d_E_withCode_13 : decode b_E_withCode 13 = .ok (.iload_n 1, 1) := by decide +kernel
theorem d_E_withCode_14 : decode b_E_withCode 14 = .ok (.aaload, 1) := by decide +kernel
theorem d_E_withCode_15 : decode b_E_withCode 15 = .ok (.getfield 62, 3) := by decide +kernel
theorem d_E_withCode_18 : decode b_E_withCode 18 = .ok (.iload_n 0, 1) := by decide +kernel
theorem d_E_withCode_19 : decode b_E_withCode 19 = .ok (.if_icmp .ne 9, 3) := by decide +kernel
theorem d_E_withCode_22 : decode b_E_withCode 22 = .ok (.getstatic 82, 3) := by decide +kernel
theorem d_E_withCode_25 : decode b_E_withCode 25 = .ok (.iload_n 1, 1) := by decide +kernel
theorem d_E_withCode_26 : decode b_E_withCode 26 = .ok (.aaload, 1) := by decide +kernel
theorem d_E_withCode_27 : decode b_E_withCode 27 = .ok (.areturn, 1) := by decide +kernel
theorem d_E_withCode_28 : decode b_E_withCode 28 = .ok (.iinc 1 1, 3) := by decide +kernel
theorem d_E_withCode_31 : decode b_E_withCode 31 = .ok (.goto (-29), 3) := by decide +kernel
theorem d_E_withCode_34 : decode b_E_withCode 34 = .ok (.getstatic 40, 3) := by decide +kernel
theorem d_E_withCode_37 : decode b_E_withCode 37 = .ok (.areturn, 1) := by decide +kernel
def fE_withCode_L2 : Nat → Int32 → Int32 → Option (Nat)
  | 0, _, _ => none
  | n + 1, v0, v1 => if 13 ≤ v1 then (some 12) else (ix v1 13 fun j2 => if (tbC j2) = v0 then (ix v1 13 fun j5 => some j5) else (fE_withCode_L2 n v0 (v1 + 1)))
def fE_withCode (a1 : Int32) : Option (Nat) := fE_withCode_L2 300 a1 0
set_option maxHeartbeats 4000000 in
set_option maxRecDepth 100000 in
theorem ctE_withCode (l : Launch) (dC : Nat → ClassId) (dI : Nat → Nat → Nat) (cI : ClassId) (ad : Nat → Nat) (tA tS : Nat) (a1 : Int32) (r : Nat) (hf : fE_withCode a1 = some r) : CeR l y_E_withCode w_E_withCode ({ frames := 0, cells := 0, slots := 0, locals := 0 }) (dC, dI) [(cI, .int)] ad tA tS [.int a1]   (ad r) := by
  intro sz
  refine Met.ofW (cc := b_E_withCode) (maxL := 2) (ret := some (.object "AppletFirewall$Instruction")) (by decide) rfl ?_
  intro p e s m args below meth c s₁ B hml hv
  obtain ⟨rfl, hsz, hK, hE⟩ := hv
  have hx := B.exec
  have hb := B.bytes
  have hr := B.returns
  have hts := atoms_spec (ws := w_E_withCode) B.pre
  have hown : s.vm.findClass R_E = some m.cls := findClass_of_methodNamed B.named
  have hlocks := B.notSynchronized
  subst hsz
  have hP : va_P (dC, dI) vwCl [] s.heap := fun i q h => by cases h
  have hD : va_D (va_A [] s.heap.size) [] := ⟨fun i j p q hp => by simp at hp, fun i q h => by simp at h⟩
  generalize hAe : va_A [] s.heap.size = A at hD hE ⊢
  have hA : ∀ q : Nat, s.heap.size ≤ q → A q := fun q h => by rw [← hAe]; exact Or.inr h
  have hS : va_S A s.heap s.heap [] := va_S.rf
  have hP : va_P (dC, dI) vwCl [] s.heap := hP
  have hl := lv_entry ([.int a1]) (n := 2) (Nat.le_of_ble_eq_true rfl)
  rw [lg_entry_eq]
  generalize (lg_sl ([.int a1]) ++ List.replicate (2 - (lg_sl ([.int a1])).length) Slot.unset).toArray = ls at hl ⊢
  have hl : lv_has ls 2 [(0, .int a1)] := hl
  have kf40 := hts _ (List.mem_cons_of_mem _ wq140)
  have kf62 := hts _ (List.mem_cons_of_mem _ wq605)
  have kf82 := hts _ (List.mem_cons_of_mem _ wq138)
  rw [fE_withCode] at hf
  refine lv_iconst (v := 0) hx hb d_E_withCode_0 (by decide) ?_
  refine lv_istore_n hx hb d_E_withCode_1 rfl hl (by decide) rfl (fun ls hl => ?_)
  have hl : lv_has ls 2 [(1, .int 0), (0, .int a1)] := hl
  have hl := lv_sub (l' := [(0, .int a1), (1, .int 0)]) hl [1, 0] rfl
  refine xloop (σ := (Int32) × (Int32)) (pc := 2) (fun n x H locs ls => va_P (dC, dI) vwCl [] H ∧ va_D A [] ∧ va_S A s.heap H locs ∧ lv_has ls 2 [(0, .int (x.1)), (1, .int (x.2))] ∧ fE_withCode_L2 n x.1 x.2 = some r) ?_ (fun x H locs ls h => by have h9 := h.2.2.2.2; rw [fE_withCode_L2] at h9; cases h9) 300 (a1, 0) _ _ ls ⟨hP, hD, hS, hl, hf⟩
  intro n ih x H locs ls hI
  obtain ⟨v0, v1⟩ := x
  obtain ⟨hP, hD, hS, hl, hf⟩ := hI
  have hP : va_P (dC, dI) vwCl [] H := hP
  have hD : va_D A [] := hD
  have hl : lv_has ls 2 [(0, .int v0), (1, .int v1)] := hl
  rw [fE_withCode_L2] at hf
  refine lv_iload_n hx hb d_E_withCode_2 rfl (lv_at hl 1 rfl) ?_
  refine va_gets hx hb hE.1 hS hown kf82 (fun _ h9 => h9) d_E_withCode_3 ?_
  refine va_tlen (v := 13) hx hb hE.2.1 hS rfl d_E_withCode_6 ?_
  refine lv_icmp_ge (tgt := 34) hx hb d_E_withCode_7 rfl (fun hc1 => ?_) (fun hc1 => ?_)
  · have hf := ift hf hc1
    refine va_gets hx hb hE.2.2.1 hS hown kf40 (fun _ h9 => h9) d_E_withCode_34 ?_
    have e1_ := lf1 hf
    subst e1_
    exact W.aret (v := .ref (ad 12)) hx hb hr (Or.inl ⟨_, rfl⟩) (Or.inr ⟨_, rfl⟩) (fun t ht hW => ⟨⟨(), ad 12, rfl, trivial, rfl⟩, hS.F ht⟩) hS.2.2 d_E_withCode_37
  have hf := ifn hf hc1
  refine va_gets hx hb hE.1 hS hown kf82 (fun _ h9 => h9) d_E_withCode_10 ?_
  refine lv_iload_n hx hb d_E_withCode_13 rfl (lv_at hl 1 rfl) ?_
  obtain ⟨hin_, hf⟩ := ix_some hf
  have hk3 := vlt hin_
  refine vb_tq hx hb hE.2.1 hS hin_ rfl d_E_withCode_14 ?_
  refine va_getX hx hb hE.2.2.2.2.2.2.2.1 hk3 hS hown kf62 (fun _ h9 => h9) d_E_withCode_15 ?_
  refine lv_iload_n hx hb d_E_withCode_18 rfl (lv_at hl 0 rfl) ?_
  refine lv_icmp_ne (tgt := 28) hx hb d_E_withCode_19 rfl (fun hc4 => ?_) (fun hc4 => ?_)
  · have hf := ifn hf hc4
    refine lv_iinc (v := v1 + 1) hx hb d_E_withCode_28 hl (k := 1) rfl rfl (by decide) rfl (fun ls hl => ?_)
    have hl : lv_has ls 2 [(1, .int (v1 + 1)), (0, .int v0)] := hl
    refine lv_goto (tgt := 2) hx hb d_E_withCode_31 rfl ?_
    have hl := lv_sub (l' := [(0, .int v0), (1, .int (v1 + 1))]) hl [1, 0] rfl
    exact ih (v0, v1 + 1) _ _ ls ⟨hP, hD, hS, hl, hf⟩
  have hf := ift hf hc4
  refine va_gets hx hb hE.1 hS hown kf82 (fun _ h9 => h9) d_E_withCode_22 ?_
  refine lv_iload_n hx hb d_E_withCode_25 rfl (lv_at hl 1 rfl) ?_
  obtain ⟨hin_, hf⟩ := ix_some hf
  have hk6 := vlt hin_
  refine vb_tq hx hb hE.2.1 hS hin_ rfl d_E_withCode_26 ?_
  have e1_ := lf1 hf
  subst e1_
  exact W.aret (v := .ref (ad ((v1 : Int32).toNatClampNeg))) hx hb hr (Or.inl ⟨_, rfl⟩) (Or.inr ⟨_, rfl⟩) (fun t ht hW => ⟨⟨(), ad ((v1 : Int32).toNatClampNeg), rfl, trivial, rfl⟩, hS.F ht⟩) hS.2.2 d_E_withCode_27
theorem wcL_lt {k : Nat} : ∀ (n : Nat) (v0 v1 : Int32), fE_withCode_L2 n v0 v1 = some k → k < 13 := by
  intro n
  induction n with
  | zero => intro v0 v1 h; rw [fE_withCode_L2] at h; cases h
  | succ n ih =>
    intro v0 v1 h
    rw [fE_withCode_L2] at h
    by_cases h1 : 13 ≤ v1
    · have h2 := lf1 (ift h h1); omega
    · obtain ⟨hi, h⟩ := ix_some (ifn h h1)
      by_cases h2 : tbC v1.toNatClampNeg = v0
      · obtain ⟨hi, h⟩ := ix_some (ift h h2)
        have h3 := lf1 h
        rw [← h3]; exact vlt hi
      · exact ih _ _ (ifn h h2)
theorem wc_lt {k : Nat} {a1 : Int32} (h : fE_withCode a1 = some k) : k < 13 := by
  rw [fE_withCode] at h; exact wcL_lt _ _ _ h
theorem d_E_takesForm_0 : decode b_E_takesForm 0 = .ok (.iload_n 1, 1) := by decide +kernel
theorem d_E_takesForm_1 : decode b_E_takesForm 1 = .ok (.aload_n 0, 1) := by decide +kernel
theorem d_E_takesForm_2 : decode b_E_takesForm 2 = .ok (.getfield 66, 3) := by decide +kernel
theorem d_E_takesForm_5 : decode b_E_takesForm 5 = .ok (.if_icmp .ne 22, 3) := by decide +kernel
theorem d_E_takesForm_8 : decode b_E_takesForm 8 = .ok (.aload_n 0, 1) := by decide +kernel
theorem d_E_takesForm_9 : decode b_E_takesForm 9 = .ok (.getfield 69, 3) := by decide +kernel
theorem d_E_takesForm_12 : decode b_E_takesForm 12 = .ok (.ifCond .eq 11, 3) := by decide +kernel
theorem d_E_takesForm_15 : decode b_E_takesForm 15 = .ok (.iload_n 2, 1) := by decide +kernel
theorem d_E_takesForm_16 : decode b_E_takesForm 16 = .ok (.aload_n 0, 1) := by decide +kernel
theorem d_E_takesForm_17 : decode b_E_takesForm 17 = .ok (.getfield 69, 3) := by decide +kernel
theorem d_E_takesForm_20 : decode b_E_takesForm 20 = .ok (.if_icmp .ne 7, 3) := by decide +kernel
theorem d_E_takesForm_23 : decode b_E_takesForm 23 = .ok (.iconst 1, 1) := by decide +kernel
theorem d_E_takesForm_24 : decode b_E_takesForm 24 = .ok (.goto 4, 3) := by decide +kernel
theorem d_E_takesForm_27 : decode b_E_takesForm 27 = .ok (.iconst 0, 1) := by decide +kernel
theorem d_E_takesForm_28 : decode b_E_takesForm 28 = .ok (.ireturn, 1) := by decide +kernel
def fE_takesForm (k : Nat) (a1 : Int32) (a2 : Int32) : Option (Int32) := if a1 = (tbS k) then (if (tbL k) = 0 then (some 1) else (if a2 = (tbL k) then (some 1) else (some 0))) else (some 0)
set_option maxHeartbeats 4000000 in
set_option maxRecDepth 100000 in
theorem ctE_takesForm (l : Launch) (dC : Nat → ClassId) (dI : Nat → Nat → Nat) (cI : ClassId) (ad : Nat → Nat) (tA tS : Nat) (k : Nat) (hk : k < 13) (a1 : Int32) (a2 : Int32) (r : Int32) (hf : fE_takesForm k a1 a2 = some r) : CeI l y_E_takesForm w_E_takesForm ({ frames := 0, cells := 0, slots := 0, locals := 0 }) (dC, dI) [(cI, .int)] ad tA tS [.ref (ad k), .int a1, .int a2]   r := by
  intro sz
  refine Met.ofW (cc := b_E_takesForm) (maxL := 3) (ret := some .boolean) (by decide) rfl ?_
  intro p e s m args below meth c s₁ B hml hv
  obtain ⟨rfl, hsz, hK, hE⟩ := hv
  have hx := B.exec
  have hb := B.bytes
  have hr := B.returns
  have hts := atoms_spec (ws := w_E_takesForm) B.pre
  have hown : s.vm.findClass R_E = some m.cls := findClass_of_methodNamed B.named
  have hlocks := B.notSynchronized
  subst hsz
  have hP : va_P (dC, dI) vwCl [] s.heap := fun i q h => by cases h
  have hD : va_D (va_A [] s.heap.size) [] := ⟨fun i j p q hp => by simp at hp, fun i q h => by simp at h⟩
  generalize hAe : va_A [] s.heap.size = A at hD hE ⊢
  have hA : ∀ q : Nat, s.heap.size ≤ q → A q := fun q h => by rw [← hAe]; exact Or.inr h
  have hS : va_S A s.heap s.heap [] := va_S.rf
  have hP : va_P (dC, dI) vwCl [] s.heap := hP
  have hl := lv_entry ([.ref (ad k), .int a1, .int a2]) (n := 3) (Nat.le_of_ble_eq_true rfl)
  rw [lg_entry_eq]
  generalize (lg_sl ([.ref (ad k), .int a1, .int a2]) ++ List.replicate (3 - (lg_sl ([.ref (ad k), .int a1, .int a2])).length) Slot.unset).toArray = ls at hl ⊢
  have hl : lv_has ls 3 [(0, .ref (ad k)), (1, .int a1), (2, .int a2)] := hl
  have kf66 := hts _ (List.mem_cons_of_mem _ wq606)
  have kf69 := hts _ (List.mem_cons_of_mem _ wq607)
  rw [fE_takesForm] at hf
  refine lv_iload_n hx hb d_E_takesForm_0 rfl (lv_at hl 1 rfl) ?_
  refine lv_aload_n hx hb d_E_takesForm_1 rfl (lv_at hl 0 rfl) ?_
  refine va_getX hx hb hE.2.2.2.2.2.2.2.2.1 hk hS hown kf66 (fun _ h9 => h9) d_E_takesForm_2 ?_
  refine lv_icmp_ne (tgt := 27) hx hb d_E_takesForm_5 rfl (fun hc1 => ?_) (fun hc1 => ?_)
  · have hf := ifn hf hc1
    refine lv_iconst (v := 0) hx hb d_E_takesForm_27 (by decide) ?_
    have e1_ := lf1 hf
    subst e1_
    exact W.zret (v := 0) (ty := .boolean) hx hb hr rfl (fun t ht hW => ⟨⟨0, (), rfl, rfl, trivial⟩, hS.F ht⟩) hS.2.2 d_E_takesForm_28
  have hf := ift hf hc1
  refine lv_aload_n hx hb d_E_takesForm_8 rfl (lv_at hl 0 rfl) ?_
  refine va_getX hx hb hE.2.2.2.2.2.2.2.2.2.1 hk hS hown kf69 (fun _ h9 => h9) d_E_takesForm_9 ?_
  refine lv_if_eq (tgt := 23) hx hb d_E_takesForm_12 rfl (fun hc2 => ?_) (fun hc2 => ?_)
  · have hf := ift hf hc2
    refine lv_iconst (v := 1) hx hb d_E_takesForm_23 (by decide) ?_
    refine lv_goto (tgt := 28) hx hb d_E_takesForm_24 rfl ?_
    have e1_ := lf1 hf
    subst e1_
    exact W.zret (v := 1) (ty := .boolean) hx hb hr rfl (fun t ht hW => ⟨⟨1, (), rfl, rfl, trivial⟩, hS.F ht⟩) hS.2.2 d_E_takesForm_28
  have hf := ifn hf hc2
  refine lv_iload_n hx hb d_E_takesForm_15 rfl (lv_at hl 2 rfl) ?_
  refine lv_aload_n hx hb d_E_takesForm_16 rfl (lv_at hl 0 rfl) ?_
  refine va_getX hx hb hE.2.2.2.2.2.2.2.2.2.1 hk hS hown kf69 (fun _ h9 => h9) d_E_takesForm_17 ?_
  refine lv_icmp_ne (tgt := 27) hx hb d_E_takesForm_20 rfl (fun hc3 => ?_) (fun hc3 => ?_)
  · have hf := ifn hf hc3
    refine lv_iconst (v := 0) hx hb d_E_takesForm_27 (by decide) ?_
    have e1_ := lf1 hf
    subst e1_
    exact W.zret (v := 0) (ty := .boolean) hx hb hr rfl (fun t ht hW => ⟨⟨0, (), rfl, rfl, trivial⟩, hS.F ht⟩) hS.2.2 d_E_takesForm_28
  have hf := ift hf hc3
  refine lv_iconst (v := 1) hx hb d_E_takesForm_23 (by decide) ?_
  refine lv_goto (tgt := 28) hx hb d_E_takesForm_24 rfl ?_
  have e1_ := lf1 hf
  subst e1_
  exact W.zret (v := 1) (ty := .boolean) hx hb hr rfl (fun t ht hW => ⟨⟨1, (), rfl, rfl, trivial⟩, hS.F ht⟩) hS.2.2 d_E_takesForm_28
theorem d_E_takesParameters_0 : decode b_E_takesParameters 0 = .ok (.iload_n 1, 1) := by decide +kernel
theorem d_E_takesParameters_1 : decode b_E_takesParameters 1 = .ok (.aload_n 0, 1) := by decide +kernel
theorem d_E_takesParameters_2 : decode b_E_takesParameters 2 = .ok (.getfield 72, 3) := by decide +kernel
theorem d_E_takesParameters_5 : decode b_E_takesParameters 5 = .ok (.if_icmp .gt 15, 3) := by decide +kernel
theorem d_E_takesParameters_8 : decode b_E_takesParameters 8 = .ok (.iload_n 2, 1) := by decide +kernel
theorem d_E_takesParameters_9 : decode b_E_takesParameters 9 = .ok (.aload_n 0, 1) := by decide +kernel
theorem d_E_takesParameters_10 : decode b_E_takesParameters 10 = .ok (.getfield 75, 3) := by decide +kernel
theorem d_E_takesParameters_13 : decode b_E_takesParameters 13 = .ok (.if_icmp .gt 7, 3) := by decide +kernel
theorem d_E_takesParameters_16 : decode b_E_takesParameters 16 = .ok (.iconst 1, 1) := by decide +kernel
theorem d_E_takesParameters_17 : decode b_E_takesParameters 17 = .ok (.goto 4, 3) := by decide +kernel
theorem d_E_takesParameters_20 : decode b_E_takesParameters 20 = .ok (.iconst 0, 1) := by decide +kernel
theorem d_E_takesParameters_21 : decode b_E_takesParameters 21 = .ok (.ireturn, 1) := by decide +kernel
def fE_takesParameters (k : Nat) (a1 : Int32) (a2 : Int32) : Option (Int32) := if (tbP k) < a1 then (some 0) else (if (tbQ k) < a2 then (some 0) else (some 1))
set_option maxHeartbeats 4000000 in
set_option maxRecDepth 100000 in
theorem ctE_takesParameters (l : Launch) (dC : Nat → ClassId) (dI : Nat → Nat → Nat) (cI : ClassId) (ad : Nat → Nat) (tA tS : Nat) (k : Nat) (hk : k < 13) (a1 : Int32) (a2 : Int32) (r : Int32) (hf : fE_takesParameters k a1 a2 = some r) : CeI l y_E_takesParameters w_E_takesParameters ({ frames := 0, cells := 0, slots := 0, locals := 0 }) (dC, dI) [(cI, .int)] ad tA tS [.ref (ad k), .int a1, .int a2]   r := by
  intro sz
  refine Met.ofW (cc := b_E_takesParameters) (maxL := 3) (ret := some .boolean) (by decide) rfl ?_
  intro p e s m args below meth c s₁ B hml hv
  obtain ⟨rfl, hsz, hK, hE⟩ := hv
  have hx := B.exec
  have hb := B.bytes
  have hr := B.returns
  have hts := atoms_spec (ws := w_E_takesParameters) B.pre
  have hown : s.vm.findClass R_E = some m.cls := findClass_of_methodNamed B.named
  have hlocks := B.notSynchronized
  subst hsz
  have hP : va_P (dC, dI) vwCl [] s.heap := fun i q h => by cases h
  have hD : va_D (va_A [] s.heap.size) [] := ⟨fun i j p q hp => by simp at hp, fun i q h => by simp at h⟩
  generalize hAe : va_A [] s.heap.size = A at hD hE ⊢
  have hA : ∀ q : Nat, s.heap.size ≤ q → A q := fun q h => by rw [← hAe]; exact Or.inr h
  have hS : va_S A s.heap s.heap [] := va_S.rf
  have hP : va_P (dC, dI) vwCl [] s.heap := hP
  have hl := lv_entry ([.ref (ad k), .int a1, .int a2]) (n := 3) (Nat.le_of_ble_eq_true rfl)
  rw [lg_entry_eq]
  generalize (lg_sl ([.ref (ad k), .int a1, .int a2]) ++ List.replicate (3 - (lg_sl ([.ref (ad k), .int a1, .int a2])).length) Slot.unset).toArray = ls at hl ⊢
  have hl : lv_has ls 3 [(0, .ref (ad k)), (1, .int a1), (2, .int a2)] := hl
  have kf72 := hts _ (List.mem_cons_of_mem _ wq608)
  have kf75 := hts _ (List.mem_cons_of_mem _ wq609)
  rw [fE_takesParameters] at hf
  refine lv_iload_n hx hb d_E_takesParameters_0 rfl (lv_at hl 1 rfl) ?_
  refine lv_aload_n hx hb d_E_takesParameters_1 rfl (lv_at hl 0 rfl) ?_
  refine va_getX hx hb hE.2.2.2.2.2.2.2.2.2.2.1 hk hS hown kf72 (fun _ h9 => h9) d_E_takesParameters_2 ?_
  refine lv_icmp_gt (tgt := 20) hx hb d_E_takesParameters_5 rfl (fun hc1 => ?_) (fun hc1 => ?_)
  · have hf := ift hf hc1
    refine lv_iconst (v := 0) hx hb d_E_takesParameters_20 (by decide) ?_
    have e1_ := lf1 hf
    subst e1_
    exact W.zret (v := 0) (ty := .boolean) hx hb hr rfl (fun t ht hW => ⟨⟨0, (), rfl, rfl, trivial⟩, hS.F ht⟩) hS.2.2 d_E_takesParameters_21
  have hf := ifn hf hc1
  refine lv_iload_n hx hb d_E_takesParameters_8 rfl (lv_at hl 2 rfl) ?_
  refine lv_aload_n hx hb d_E_takesParameters_9 rfl (lv_at hl 0 rfl) ?_
  refine va_getX hx hb hE.2.2.2.2.2.2.2.2.2.2.2.1 hk hS hown kf75 (fun _ h9 => h9) d_E_takesParameters_10 ?_
  refine lv_icmp_gt (tgt := 20) hx hb d_E_takesParameters_13 rfl (fun hc2 => ?_) (fun hc2 => ?_)
  · have hf := ift hf hc2
    refine lv_iconst (v := 0) hx hb d_E_takesParameters_20 (by decide) ?_
    have e1_ := lf1 hf
    subst e1_
    exact W.zret (v := 0) (ty := .boolean) hx hb hr rfl (fun t ht hW => ⟨⟨0, (), rfl, rfl, trivial⟩, hS.F ht⟩) hS.2.2 d_E_takesParameters_21
  have hf := ifn hf hc2
  refine lv_iconst (v := 1) hx hb d_E_takesParameters_16 (by decide) ?_
  refine lv_goto (tgt := 21) hx hb d_E_takesParameters_17 rfl ?_
  have e1_ := lf1 hf
  subst e1_
  exact W.zret (v := 1) (ty := .boolean) hx hb hr rfl (fun t ht hW => ⟨⟨1, (), rfl, rfl, trivial⟩, hS.F ht⟩) hS.2.2 d_E_takesParameters_21
theorem d_E_isGuarded_0 : decode b_E_isGuarded 0 = .ok (.aload_n 0, 1) := by decide +kernel
theorem d_E_isGuarded_1 : decode b_E_isGuarded 1 = .ok (.getfield 78, 3) := by decide +kernel
theorem d_E_isGuarded_4 : decode b_E_isGuarded 4 = .ok (.ireturn, 1) := by decide +kernel
def fE_isGuarded (k : Nat) : Option (Int32) := some (tbG k)
set_option maxHeartbeats 4000000 in
set_option maxRecDepth 100000 in
theorem ctE_isGuarded (l : Launch) (dC : Nat → ClassId) (dI : Nat → Nat → Nat) (cI : ClassId) (ad : Nat → Nat) (tA tS : Nat) (k : Nat) (hk : k < 13) (r : Int32) (hf : fE_isGuarded k = some r) : CeI l y_E_isGuarded w_E_isGuarded ({ frames := 0, cells := 0, slots := 0, locals := 0 }) (dC, dI) [(cI, .int)] ad tA tS [.ref (ad k)]   r := by
  intro sz
  refine Met.ofW (cc := b_E_isGuarded) (maxL := 1) (ret := some .boolean) (by decide) rfl ?_
  intro p e s m args below meth c s₁ B hml hv
  obtain ⟨rfl, hsz, hK, hE⟩ := hv
  have hx := B.exec
  have hb := B.bytes
  have hr := B.returns
  have hts := atoms_spec (ws := w_E_isGuarded) B.pre
  have hown : s.vm.findClass R_E = some m.cls := findClass_of_methodNamed B.named
  have hlocks := B.notSynchronized
  subst hsz
  have hP : va_P (dC, dI) vwCl [] s.heap := fun i q h => by cases h
  have hD : va_D (va_A [] s.heap.size) [] := ⟨fun i j p q hp => by simp at hp, fun i q h => by simp at h⟩
  generalize hAe : va_A [] s.heap.size = A at hD hE ⊢
  have hA : ∀ q : Nat, s.heap.size ≤ q → A q := fun q h => by rw [← hAe]; exact Or.inr h
  have hS : va_S A s.heap s.heap [] := va_S.rf
  have hP : va_P (dC, dI) vwCl [] s.heap := hP
  have hl := lv_entry ([.ref (ad k)]) (n := 1) (Nat.le_of_ble_eq_true rfl)
  rw [lg_entry_eq]
  generalize (lg_sl ([.ref (ad k)]) ++ List.replicate (1 - (lg_sl ([.ref (ad k)])).length) Slot.unset).toArray = ls at hl ⊢
  have hl : lv_has ls 1 [(0, .ref (ad k))] := hl
  have kf78 := hts _ (List.mem_cons_of_mem _ wq610)
  rw [fE_isGuarded] at hf
  refine lv_aload_n hx hb d_E_isGuarded_0 rfl (lv_at hl 0 rfl) ?_
  refine va_getX hx hb hE.2.2.2.2.2.2.2.2.2.2.2.2.1 hk hS hown kf78 (fun _ h9 => h9) d_E_isGuarded_1 ?_
  have e1_ := lf1 hf
  subst e1_
  exact W.zret (v := tbG k) (ty := .boolean) hx hb hr (tbG_z k hk) (fun t ht hW => ⟨⟨tbG k, (), rfl, rfl, trivial⟩, hS.F ht⟩) hS.2.2 d_E_isGuarded_4
abbrev b_E_ordinal : ByteArray := prog_8_method_2_code
theorem d_E_ordinal_0 : decode b_E_ordinal 0 = .ok (.aload_n 0, 1) := by decide +kernel
theorem d_E_ordinal_1 : decode b_E_ordinal 1 = .ok (.getfield 7, 3) := by decide +kernel
theorem d_E_ordinal_4 : decode b_E_ordinal 4 = .ok (.ireturn, 1) := by decide +kernel
set_option maxHeartbeats 4000000 in
set_option maxRecDepth 100000 in
theorem ctE_ordinal (l : Launch) (dC : Nat → ClassId) (dI : Nat → Nat → Nat) (cI : ClassId) (ad : Nat → Nat) (tA tS : Nat) (k : Nat) (hk : k < 13) : CeI l ⟨"java/lang/Enum", "ordinal", "()I"⟩ (.code ⟨"java/lang/Enum", "ordinal", "()I"⟩ prog_8_method_2_code 1 (some .int) :: lw_g) ({ frames := 0, cells := 0, slots := 0, locals := 0 }) (dC, dI) [(cI, .int)] ad tA tS [.ref (ad k)] (nI k) := by
  intro sz
  refine Met.ofW (cc := b_E_ordinal) (maxL := 1) (ret := some .int) (by decide) rfl ?_
  intro p e s m args below meth c s₁ B hml hv
  obtain ⟨rfl, hsz, hK, hE⟩ := hv
  have hx := B.exec
  have hb := B.bytes
  have hr := B.returns
  have hts := atoms_spec (ws := .code ⟨"java/lang/Enum", "ordinal", "()I"⟩ prog_8_method_2_code 1 (some .int) :: lw_g) B.pre
  have hown : s.vm.findClass "java/lang/Enum" = some m.cls := findClass_of_methodNamed B.named
  have hlocks := B.notSynchronized
  subst hsz
  generalize hAe : va_A [] s.heap.size = A at hE ⊢
  have hS : va_S A s.heap s.heap [] := va_S.rf
  have hl := lv_entry ([.ref (ad k)]) (n := 1) (Nat.le_of_ble_eq_true rfl)
  rw [lg_entry_eq]
  generalize (lg_sl ([.ref (ad k)]) ++ List.replicate (1 - (lg_sl ([.ref (ad k)])).length) Slot.unset).toArray = ls at hl ⊢
  have hl : lv_has ls 1 [(0, .ref (ad k))] := hl
  have kf7 := hts _ (List.mem_cons_of_mem _ wq611)
  refine lv_aload_n hx hb d_E_ordinal_0 rfl (lv_at hl 0 rfl) ?_
  refine va_getX hx hb hE.2.2.2.2.2.2.2.2.2.2.2.2.2.1 hk hS hown kf7 (fun _ h9 => h9) d_E_ordinal_1 ?_
  exact W.iret (v := nI k) hx hb hr (fun t ht hW => ⟨⟨nI k, (), rfl, rfl, trivial⟩, hS.F ht⟩) hS.2.2 d_E_ordinal_4
end
