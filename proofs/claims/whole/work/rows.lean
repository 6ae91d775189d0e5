section
-- ===== PART A: goes FIRST, ahead of the names: the tables' words, and 'selects' of the private methods out of them =====
/-- a private method of a class that the tables say can be made, by its rows of tables_1 -/
def lw_okq (q : MethodName × Nat) : Prop := (q.1.cls ≠ "java/lang/invoke/MethodHandle" ∧ q.1.cls ≠ "java/lang/invoke/VarHandle") ∧ Cond.instantiable q.1.cls q.2 ∈ tables_1 ∧ Cond.privateMethod q.1 ∈ tables_1 ∧ Cond.instanceMethod q.1 ∈ tables_1
theorem lw_p0 : lw_okq (⟨"AppletFirewall", "admit", "(LAppletFirewall$Instruction;)I"⟩, 9) := ⟨⟨by decide +kernel, by decide +kernel⟩, List.mem_of_getElem? (i := 9) (by decide +kernel), List.mem_of_getElem? (i := 101) (by decide +kernel), List.mem_of_getElem? (i := 102) (by decide +kernel)⟩
theorem lw_p1 : lw_okq (⟨"AppletFirewall", "perform", "(LAppletFirewall$Instruction;)I"⟩, 9) := ⟨⟨by decide +kernel, by decide +kernel⟩, List.mem_of_getElem? (i := 9) (by decide +kernel), List.mem_of_getElem? (i := 142) (by decide +kernel), List.mem_of_getElem? (i := 143) (by decide +kernel)⟩
theorem lw_p2 : lw_okq (⟨"AppletFirewall", "select", "()I"⟩, 9) := ⟨⟨by decide +kernel, by decide +kernel⟩, List.mem_of_getElem? (i := 9) (by decide +kernel), List.mem_of_getElem? (i := 154) (by decide +kernel), List.mem_of_getElem? (i := 155) (by decide +kernel)⟩
theorem lw_p3 : lw_okq (⟨"AppletFirewall", "respond", "(II)I"⟩, 9) := ⟨⟨by decide +kernel, by decide +kernel⟩, List.mem_of_getElem? (i := 9) (by decide +kernel), List.mem_of_getElem? (i := 184) (by decide +kernel), List.mem_of_getElem? (i := 185) (by decide +kernel)⟩
theorem lw_p4 : lw_okq (⟨"AppletFirewall", "verify", "()I"⟩, 9) := ⟨⟨by decide +kernel, by decide +kernel⟩, List.mem_of_getElem? (i := 9) (by decide +kernel), List.mem_of_getElem? (i := 192) (by decide +kernel), List.mem_of_getElem? (i := 193) (by decide +kernel)⟩
theorem lw_p5 : lw_okq (⟨"AppletFirewall", "payloadIsSecret", "()Z"⟩, 9) := ⟨⟨by decide +kernel, by decide +kernel⟩, List.mem_of_getElem? (i := 9) (by decide +kernel), List.mem_of_getElem? (i := 197) (by decide +kernel), List.mem_of_getElem? (i := 198) (by decide +kernel)⟩
theorem lw_p6 : lw_okq (⟨"AppletFirewall", "storePayload", "(I)I"⟩, 9) := ⟨⟨by decide +kernel, by decide +kernel⟩, List.mem_of_getElem? (i := 9) (by decide +kernel), List.mem_of_getElem? (i := 204) (by decide +kernel), List.mem_of_getElem? (i := 205) (by decide +kernel)⟩
theorem lw_p7 : lw_okq (⟨"AppletFirewall", "store", "(I[III)I"⟩, 9) := ⟨⟨by decide +kernel, by decide +kernel⟩, List.mem_of_getElem? (i := 9) (by decide +kernel), List.mem_of_getElem? (i := 212) (by decide +kernel), List.mem_of_getElem? (i := 213) (by decide +kernel)⟩
theorem lw_p8 : lw_okq (⟨"AppletFirewall", "unblock", "()I"⟩, 9) := ⟨⟨by decide +kernel, by decide +kernel⟩, List.mem_of_getElem? (i := 9) (by decide +kernel), List.mem_of_getElem? (i := 225) (by decide +kernel), List.mem_of_getElem? (i := 226) (by decide +kernel)⟩
theorem lw_p9 : lw_okq (⟨"AppletFirewall", "read", "()I"⟩, 9) := ⟨⟨by decide +kernel, by decide +kernel⟩, List.mem_of_getElem? (i := 9) (by decide +kernel), List.mem_of_getElem? (i := 229) (by decide +kernel), List.mem_of_getElem? (i := 230) (by decide +kernel)⟩
theorem lw_p10 : lw_okq (⟨"AppletFirewall", "update", "()I"⟩, 9) := ⟨⟨by decide +kernel, by decide +kernel⟩, List.mem_of_getElem? (i := 9) (by decide +kernel), List.mem_of_getElem? (i := 240) (by decide +kernel), List.mem_of_getElem? (i := 241) (by decide +kernel)⟩
theorem lw_p11 : lw_okq (⟨"AppletFirewall", "begin", "()I"⟩, 9) := ⟨⟨by decide +kernel, by decide +kernel⟩, List.mem_of_getElem? (i := 9) (by decide +kernel), List.mem_of_getElem? (i := 244) (by decide +kernel), List.mem_of_getElem? (i := 245) (by decide +kernel)⟩
theorem lw_p12 : lw_okq (⟨"AppletFirewall", "end", "()I"⟩, 9) := ⟨⟨by decide +kernel, by decide +kernel⟩, List.mem_of_getElem? (i := 9) (by decide +kernel), List.mem_of_getElem? (i := 248) (by decide +kernel), List.mem_of_getElem? (i := 249) (by decide +kernel)⟩
theorem lw_p13 : lw_okq (⟨"AppletFirewall", "grant", "()I"⟩, 9) := ⟨⟨by decide +kernel, by decide +kernel⟩, List.mem_of_getElem? (i := 9) (by decide +kernel), List.mem_of_getElem? (i := 252) (by decide +kernel), List.mem_of_getElem? (i := 253) (by decide +kernel)⟩
theorem lw_p14 : lw_okq (⟨"AppletFirewall", "ownerOf", "(I)I"⟩, 9) := ⟨⟨by decide +kernel, by decide +kernel⟩, List.mem_of_getElem? (i := 9) (by decide +kernel), List.mem_of_getElem? (i := 256) (by decide +kernel), List.mem_of_getElem? (i := 257) (by decide +kernel)⟩
theorem lw_p15 : lw_okq (⟨"AppletFirewall", "shareByte", "(II)I"⟩, 9) := ⟨⟨by decide +kernel, by decide +kernel⟩, List.mem_of_getElem? (i := 9) (by decide +kernel), List.mem_of_getElem? (i := 260) (by decide +kernel), List.mem_of_getElem? (i := 261) (by decide +kernel)⟩
def lw_privs_1 : List (MethodName × Nat) := [(⟨"AppletFirewall", "admit", "(LAppletFirewall$Instruction;)I"⟩, 9), (⟨"AppletFirewall", "perform", "(LAppletFirewall$Instruction;)I"⟩, 9), (⟨"AppletFirewall", "select", "()I"⟩, 9), (⟨"AppletFirewall", "respond", "(II)I"⟩, 9), (⟨"AppletFirewall", "verify", "()I"⟩, 9), (⟨"AppletFirewall", "payloadIsSecret", "()Z"⟩, 9), (⟨"AppletFirewall", "storePayload", "(I)I"⟩, 9), (⟨"AppletFirewall", "store", "(I[III)I"⟩, 9), (⟨"AppletFirewall", "unblock", "()I"⟩, 9), (⟨"AppletFirewall", "read", "()I"⟩, 9), (⟨"AppletFirewall", "update", "()I"⟩, 9), (⟨"AppletFirewall", "begin", "()I"⟩, 9), (⟨"AppletFirewall", "end", "()I"⟩, 9), (⟨"AppletFirewall", "grant", "()I"⟩, 9), (⟨"AppletFirewall", "ownerOf", "(I)I"⟩, 9), (⟨"AppletFirewall", "shareByte", "(II)I"⟩, 9)]
theorem lw_r1 : ∀ q ∈ lw_privs_1, lw_okq q := List.forall_mem_cons.mpr ⟨lw_p0, List.forall_mem_cons.mpr ⟨lw_p1, List.forall_mem_cons.mpr ⟨lw_p2, List.forall_mem_cons.mpr ⟨lw_p3, List.forall_mem_cons.mpr ⟨lw_p4, List.forall_mem_cons.mpr ⟨lw_p5, List.forall_mem_cons.mpr ⟨lw_p6, List.forall_mem_cons.mpr ⟨lw_p7, List.forall_mem_cons.mpr ⟨lw_p8, List.forall_mem_cons.mpr ⟨lw_p9, List.forall_mem_cons.mpr ⟨lw_p10, List.forall_mem_cons.mpr ⟨lw_p11, List.forall_mem_cons.mpr ⟨lw_p12, List.forall_mem_cons.mpr ⟨lw_p13, List.forall_mem_cons.mpr ⟨lw_p14, List.forall_mem_cons.mpr ⟨lw_p15, fun _ h => absurd h List.not_mem_nil⟩⟩⟩⟩⟩⟩⟩⟩⟩⟩⟩⟩⟩⟩⟩⟩
theorem lw_p16 : lw_okq (⟨"AppletFirewall", "revoke", "()I"⟩, 9) := ⟨⟨by decide +kernel, by decide +kernel⟩, List.mem_of_getElem? (i := 9) (by decide +kernel), List.mem_of_getElem? (i := 267) (by decide +kernel), List.mem_of_getElem? (i := 268) (by decide +kernel)⟩
theorem lw_p17 : lw_okq (⟨"AppletFirewall", "readShared", "()I"⟩, 9) := ⟨⟨by decide +kernel, by decide +kernel⟩, List.mem_of_getElem? (i := 9) (by decide +kernel), List.mem_of_getElem? (i := 271) (by decide +kernel), List.mem_of_getElem? (i := 272) (by decide +kernel)⟩
theorem lw_p18 : lw_okq (⟨"AppletFirewall", "clientOf", "(I)I"⟩, 9) := ⟨⟨by decide +kernel, by decide +kernel⟩, List.mem_of_getElem? (i := 9) (by decide +kernel), List.mem_of_getElem? (i := 275) (by decide +kernel), List.mem_of_getElem? (i := 276) (by decide +kernel)⟩
theorem lw_p19 : lw_okq (⟨"AppletFirewall", "sharedPlace", "(II)I"⟩, 9) := ⟨⟨by decide +kernel, by decide +kernel⟩, List.mem_of_getElem? (i := 9) (by decide +kernel), List.mem_of_getElem? (i := 279) (by decide +kernel), List.mem_of_getElem? (i := 280) (by decide +kernel)⟩
theorem lw_p20 : lw_okq (⟨"AppletFirewall", "updateShared", "()I"⟩, 9) := ⟨⟨by decide +kernel, by decide +kernel⟩, List.mem_of_getElem? (i := 9) (by decide +kernel), List.mem_of_getElem? (i := 283) (by decide +kernel), List.mem_of_getElem? (i := 284) (by decide +kernel)⟩
theorem lw_p21 : lw_okq (⟨"AppletFirewall", "switchOff", "()V"⟩, 9) := ⟨⟨by decide +kernel, by decide +kernel⟩, List.mem_of_getElem? (i := 9) (by decide +kernel), List.mem_of_getElem? (i := 291) (by decide +kernel), List.mem_of_getElem? (i := 292) (by decide +kernel)⟩
theorem lw_p22 : lw_okq (⟨"AppletFirewallModel", "forget", "()V"⟩, 16) := ⟨⟨by decide +kernel, by decide +kernel⟩, List.mem_of_getElem? (i := 359) (by decide +kernel), List.mem_of_getElem? (i := 422) (by decide +kernel), List.mem_of_getElem? (i := 423) (by decide +kernel)⟩
theorem lw_p23 : lw_okq (⟨"AppletFirewallModel", "undo", "()Z"⟩, 16) := ⟨⟨by decide +kernel, by decide +kernel⟩, List.mem_of_getElem? (i := 359) (by decide +kernel), List.mem_of_getElem? (i := 426) (by decide +kernel), List.mem_of_getElem? (i := 427) (by decide +kernel)⟩
theorem lw_p24 : lw_okq (⟨"AppletFirewallModel", "several", "(I)Z"⟩, 16) := ⟨⟨by decide +kernel, by decide +kernel⟩, List.mem_of_getElem? (i := 359) (by decide +kernel), List.mem_of_getElem? (i := 430) (by decide +kernel), List.mem_of_getElem? (i := 431) (by decide +kernel)⟩
theorem lw_p25 : lw_okq (⟨"AppletFirewallModel", "write", "()Z"⟩, 16) := ⟨⟨by decide +kernel, by decide +kernel⟩, List.mem_of_getElem? (i := 359) (by decide +kernel), List.mem_of_getElem? (i := 434) (by decide +kernel), List.mem_of_getElem? (i := 435) (by decide +kernel)⟩
theorem lw_p26 : lw_okq (⟨"AppletFirewallModel", "refuse", "()I"⟩, 16) := ⟨⟨by decide +kernel, by decide +kernel⟩, List.mem_of_getElem? (i := 359) (by decide +kernel), List.mem_of_getElem? (i := 447) (by decide +kernel), List.mem_of_getElem? (i := 448) (by decide +kernel)⟩
theorem lw_p27 : lw_okq (⟨"AppletFirewallModel", "shape", "()I"⟩, 16) := ⟨⟨by decide +kernel, by decide +kernel⟩, List.mem_of_getElem? (i := 359) (by decide +kernel), List.mem_of_getElem? (i := 451) (by decide +kernel), List.mem_of_getElem? (i := 452) (by decide +kernel)⟩
theorem lw_p28 : lw_okq (⟨"AppletFirewallModel", "lengthWrong", "(I)Z"⟩, 16) := ⟨⟨by decide +kernel, by decide +kernel⟩, List.mem_of_getElem? (i := 359) (by decide +kernel), List.mem_of_getElem? (i := 464) (by decide +kernel), List.mem_of_getElem? (i := 465) (by decide +kernel)⟩
theorem lw_p29 : lw_okq (⟨"AppletFirewallModel", "placesWrong", "(I)Z"⟩, 16) := ⟨⟨by decide +kernel, by decide +kernel⟩, List.mem_of_getElem? (i := 359) (by decide +kernel), List.mem_of_getElem? (i := 468) (by decide +kernel), List.mem_of_getElem? (i := 469) (by decide +kernel)⟩
theorem lw_p30 : lw_okq (⟨"AppletFirewallModel", "carry", "(III)I"⟩, 16) := ⟨⟨by decide +kernel, by decide +kernel⟩, List.mem_of_getElem? (i := 359) (by decide +kernel), List.mem_of_getElem? (i := 472) (by decide +kernel), List.mem_of_getElem? (i := 473) (by decide +kernel)⟩
theorem lw_p31 : lw_okq (⟨"AppletFirewallModel", "select", "(I)I"⟩, 16) := ⟨⟨by decide +kernel, by decide +kernel⟩, List.mem_of_getElem? (i := 359) (by decide +kernel), List.mem_of_getElem? (i := 476) (by decide +kernel), List.mem_of_getElem? (i := 477) (by decide +kernel)⟩
def lw_privs_2 : List (MethodName × Nat) := [(⟨"AppletFirewall", "revoke", "()I"⟩, 9), (⟨"AppletFirewall", "readShared", "()I"⟩, 9), (⟨"AppletFirewall", "clientOf", "(I)I"⟩, 9), (⟨"AppletFirewall", "sharedPlace", "(II)I"⟩, 9), (⟨"AppletFirewall", "updateShared", "()I"⟩, 9), (⟨"AppletFirewall", "switchOff", "()V"⟩, 9), (⟨"AppletFirewallModel", "forget", "()V"⟩, 16), (⟨"AppletFirewallModel", "undo", "()Z"⟩, 16), (⟨"AppletFirewallModel", "several", "(I)Z"⟩, 16), (⟨"AppletFirewallModel", "write", "()Z"⟩, 16), (⟨"AppletFirewallModel", "refuse", "()I"⟩, 16), (⟨"AppletFirewallModel", "shape", "()I"⟩, 16), (⟨"AppletFirewallModel", "lengthWrong", "(I)Z"⟩, 16), (⟨"AppletFirewallModel", "placesWrong", "(I)Z"⟩, 16), (⟨"AppletFirewallModel", "carry", "(III)I"⟩, 16), (⟨"AppletFirewallModel", "select", "(I)I"⟩, 16)]
theorem lw_r2 : ∀ q ∈ lw_privs_2, lw_okq q := List.forall_mem_cons.mpr ⟨lw_p16, List.forall_mem_cons.mpr ⟨lw_p17, List.forall_mem_cons.mpr ⟨lw_p18, List.forall_mem_cons.mpr ⟨lw_p19, List.forall_mem_cons.mpr ⟨lw_p20, List.forall_mem_cons.mpr ⟨lw_p21, List.forall_mem_cons.mpr ⟨lw_p22, List.forall_mem_cons.mpr ⟨lw_p23, List.forall_mem_cons.mpr ⟨lw_p24, List.forall_mem_cons.mpr ⟨lw_p25, List.forall_mem_cons.mpr ⟨lw_p26, List.forall_mem_cons.mpr ⟨lw_p27, List.forall_mem_cons.mpr ⟨lw_p28, List.forall_mem_cons.mpr ⟨lw_p29, List.forall_mem_cons.mpr ⟨lw_p30, List.forall_mem_cons.mpr ⟨lw_p31, fun _ h => absurd h List.not_mem_nil⟩⟩⟩⟩⟩⟩⟩⟩⟩⟩⟩⟩⟩⟩⟩⟩
theorem lw_p32 : lw_okq (⟨"AppletFirewallModel", "verify", "()I"⟩, 16) := ⟨⟨by decide +kernel, by decide +kernel⟩, List.mem_of_getElem? (i := 359) (by decide +kernel), List.mem_of_getElem? (i := 481) (by decide +kernel), List.mem_of_getElem? (i := 482) (by decide +kernel)⟩
theorem lw_p33 : lw_okq (⟨"AppletFirewallModel", "store", "(II)I"⟩, 16) := ⟨⟨by decide +kernel, by decide +kernel⟩, List.mem_of_getElem? (i := 359) (by decide +kernel), List.mem_of_getElem? (i := 485) (by decide +kernel), List.mem_of_getElem? (i := 486) (by decide +kernel)⟩
theorem lw_p34 : lw_okq (⟨"AppletFirewallModel", "change", "(II)Z"⟩, 16) := ⟨⟨by decide +kernel, by decide +kernel⟩, List.mem_of_getElem? (i := 359) (by decide +kernel), List.mem_of_getElem? (i := 489) (by decide +kernel), List.mem_of_getElem? (i := 490) (by decide +kernel)⟩
theorem lw_p35 : lw_okq (⟨"AppletFirewallModel", "settle", "()Z"⟩, 16) := ⟨⟨by decide +kernel, by decide +kernel⟩, List.mem_of_getElem? (i := 359) (by decide +kernel), List.mem_of_getElem? (i := 493) (by decide +kernel), List.mem_of_getElem? (i := 494) (by decide +kernel)⟩
theorem lw_p36 : lw_okq (⟨"AppletFirewallModel", "unblock", "(I)I"⟩, 16) := ⟨⟨by decide +kernel, by decide +kernel⟩, List.mem_of_getElem? (i := 359) (by decide +kernel), List.mem_of_getElem? (i := 497) (by decide +kernel), List.mem_of_getElem? (i := 498) (by decide +kernel)⟩
theorem lw_p37 : lw_okq (⟨"AppletFirewallModel", "read", "(III)I"⟩, 16) := ⟨⟨by decide +kernel, by decide +kernel⟩, List.mem_of_getElem? (i := 359) (by decide +kernel), List.mem_of_getElem? (i := 501) (by decide +kernel), List.mem_of_getElem? (i := 502) (by decide +kernel)⟩
theorem lw_p38 : lw_okq (⟨"AppletFirewallModel", "begin", "()I"⟩, 16) := ⟨⟨by decide +kernel, by decide +kernel⟩, List.mem_of_getElem? (i := 359) (by decide +kernel), List.mem_of_getElem? (i := 505) (by decide +kernel), List.mem_of_getElem? (i := 506) (by decide +kernel)⟩
theorem lw_p39 : lw_okq (⟨"AppletFirewallModel", "end", "(I)I"⟩, 16) := ⟨⟨by decide +kernel, by decide +kernel⟩, List.mem_of_getElem? (i := 359) (by decide +kernel), List.mem_of_getElem? (i := 509) (by decide +kernel), List.mem_of_getElem? (i := 510) (by decide +kernel)⟩
theorem lw_p40 : lw_okq (⟨"AppletFirewallModel", "grant", "(I)I"⟩, 16) := ⟨⟨by decide +kernel, by decide +kernel⟩, List.mem_of_getElem? (i := 359) (by decide +kernel), List.mem_of_getElem? (i := 513) (by decide +kernel), List.mem_of_getElem? (i := 514) (by decide +kernel)⟩
theorem lw_p41 : lw_okq (⟨"AppletFirewallModel", "shared", "(III)I"⟩, 16) := ⟨⟨by decide +kernel, by decide +kernel⟩, List.mem_of_getElem? (i := 359) (by decide +kernel), List.mem_of_getElem? (i := 517) (by decide +kernel), List.mem_of_getElem? (i := 518) (by decide +kernel)⟩
def lw_privs_3 : List (MethodName × Nat) := [(⟨"AppletFirewallModel", "verify", "()I"⟩, 16), (⟨"AppletFirewallModel", "store", "(II)I"⟩, 16), (⟨"AppletFirewallModel", "change", "(II)Z"⟩, 16), (⟨"AppletFirewallModel", "settle", "()Z"⟩, 16), (⟨"AppletFirewallModel", "unblock", "(I)I"⟩, 16), (⟨"AppletFirewallModel", "read", "(III)I"⟩, 16), (⟨"AppletFirewallModel", "begin", "()I"⟩, 16), (⟨"AppletFirewallModel", "end", "(I)I"⟩, 16), (⟨"AppletFirewallModel", "grant", "(I)I"⟩, 16), (⟨"AppletFirewallModel", "shared", "(III)I"⟩, 16)]
theorem lw_r3 : ∀ q ∈ lw_privs_3, lw_okq q := List.forall_mem_cons.mpr ⟨lw_p32, List.forall_mem_cons.mpr ⟨lw_p33, List.forall_mem_cons.mpr ⟨lw_p34, List.forall_mem_cons.mpr ⟨lw_p35, List.forall_mem_cons.mpr ⟨lw_p36, List.forall_mem_cons.mpr ⟨lw_p37, List.forall_mem_cons.mpr ⟨lw_p38, List.forall_mem_cons.mpr ⟨lw_p39, List.forall_mem_cons.mpr ⟨lw_p40, List.forall_mem_cons.mpr ⟨lw_p41, fun _ h => absurd h List.not_mem_nil⟩⟩⟩⟩⟩⟩⟩⟩⟩⟩
def lw_privs : List (MethodName × Nat) := lw_privs_1 ++ (lw_privs_2 ++ (lw_privs_3))
def lw_tbl : List Cond := k2_sels lw_privs ++ tables_1
theorem lw_privs_ok : ∀ q ∈ lw_privs, lw_okq q := by
  show ∀ q ∈ lw_privs_1 ++ (lw_privs_2 ++ (lw_privs_3)), lw_okq q
  exact List.forall_mem_append.mpr ⟨lw_r1, List.forall_mem_append.mpr ⟨lw_r2, lw_r3⟩⟩
end
section
-- the words that every state of a run keeps
def lw_g : List Cond := lw_tbl.filter goodWord
abbrev R_A : String := "AppletFirewall"
def F_A : u_T := fun k => match k with
  | 0 => ("AppletFirewall", "memory", "LAppletFirewall$Memory;", true)
  | 1 => ("AppletFirewall", "input", "LAppletFirewall$Input;", true)
  | 2 => ("AppletFirewall", "answer", "[I", true)
  | 3 => ("AppletFirewall", "grantRow", "[I", true)
  | 4 => ("AppletFirewall", "answerLength", "I", false)
  | 5 => ("AppletFirewall", "on", "Z", false)
  | 6 => ("AppletFirewall", "selected", "I", false)
  | 7 => ("AppletFirewall", "verified", "Z", false)
  | _ => ("AppletFirewall", "open", "Z", false)
def t_A : Nat → FieldType := fun k => match k with
  | 0 => .object "AppletFirewall$Memory"
  | 1 => .object "AppletFirewall$Input"
  | 2 => .array .int
  | 3 => .array .int
  | 4 => .int
  | 5 => .boolean
  | 6 => .int
  | 7 => .boolean
  | _ => .boolean
theorem n_A : ∀ a, a < 9 → ∀ b, b < 9 → a ≠ b → (F_A a).2.1 ≠ (F_A b).2.1 := by decide +kernel
theorem t_A_ok : ∀ k, k < 9 → parseFieldDescriptor (F_A k).2.2.1 = some (t_A k) := by decide +kernel
theorem in_A : ∀ w ∈ u_ws R_A F_A 9, w ∈ lw_g := by decide +kernel
abbrev R_M : String := "AppletFirewall$Memory"
def F_M : u_T := fun k => match k with
  | 0 => ("AppletFirewall$Memory", "cells", "[I", true)
  | 1 => ("AppletFirewall$Memory", "written", "I", false)
  | 2 => ("AppletFirewall$Memory", "failed", "I", false)
  | _ => ("AppletFirewall$Memory", "fuse", "I", false)
def t_M : Nat → FieldType := fun k => match k with
  | 0 => .array .int
  | 1 => .int
  | 2 => .int
  | _ => .int
theorem n_M : ∀ a, a < 4 → ∀ b, b < 4 → a ≠ b → (F_M a).2.1 ≠ (F_M b).2.1 := by decide +kernel
theorem t_M_ok : ∀ k, k < 4 → parseFieldDescriptor (F_M k).2.2.1 = some (t_M k) := by decide +kernel
theorem in_M : ∀ w ∈ u_ws R_M F_M 4, w ∈ lw_g := by decide +kernel
abbrev R_I : String := "AppletFirewall$Input"
def F_I : u_T := fun k => match k with
  | 0 => ("AppletFirewall$Input", "bytes", "[I", true)
  | _ => ("AppletFirewall$Input", "count", "I", false)
def t_I : Nat → FieldType := fun k => match k with
  | 0 => .array .int
  | _ => .int
theorem n_I : ∀ a, a < 2 → ∀ b, b < 2 → a ≠ b → (F_I a).2.1 ≠ (F_I b).2.1 := by decide +kernel
theorem t_I_ok : ∀ k, k < 2 → parseFieldDescriptor (F_I k).2.2.1 = some (t_I k) := by decide +kernel
theorem in_I : ∀ w ∈ u_ws R_I F_I 2, w ∈ lw_g := by decide +kernel
abbrev R_Rf : String := "AppletFirewallModel"
def F_Rf : u_T := fun k => match k with
  | 0 => ("AppletFirewallModel", "memory", "[I", true)
  | 1 => ("AppletFirewallModel", "before", "[I", true)
  | 2 => ("AppletFirewallModel", "left", "[I", true)
  | 3 => ("AppletFirewallModel", "count", "I", false)
  | 4 => ("AppletFirewallModel", "done", "I", false)
  | 5 => ("AppletFirewallModel", "failed", "I", false)
  | 6 => ("AppletFirewallModel", "armed", "Z", false)
  | 7 => ("AppletFirewallModel", "fuse", "I", false)
  | 8 => ("AppletFirewallModel", "on", "Z", false)
  | 9 => ("AppletFirewallModel", "selected", "I", false)
  | 10 => ("AppletFirewallModel", "verified", "Z", false)
  | 11 => ("AppletFirewallModel", "open", "Z", false)
  | 12 => ("AppletFirewallModel", "in", "[I", true)
  | 13 => ("AppletFirewallModel", "size", "I", false)
  | 14 => ("AppletFirewallModel", "out", "[I", true)
  | _ => ("AppletFirewallModel", "told", "I", false)
def t_Rf : Nat → FieldType := fun k => match k with
  | 0 => .array .int
  | 1 => .array .int
  | 2 => .array .int
  | 3 => .int
  | 4 => .int
  | 5 => .int
  | 6 => .boolean
  | 7 => .int
  | 8 => .boolean
  | 9 => .int
  | 10 => .boolean
  | 11 => .boolean
  | 12 => .array .int
  | 13 => .int
  | 14 => .array .int
  | _ => .int
theorem n_Rf : ∀ a, a < 16 → ∀ b, b < 16 → a ≠ b → (F_Rf a).2.1 ≠ (F_Rf b).2.1 := by decide +kernel
theorem t_Rf_ok : ∀ k, k < 16 → parseFieldDescriptor (F_Rf k).2.2.1 = some (t_Rf k) := by decide +kernel
theorem in_Rf : ∀ w ∈ u_ws R_Rf F_Rf 16, w ∈ lw_g := by decide +kernel
abbrev R_E : String := "AppletFirewall$Instruction"
abbrev vwCl : List vw_C := [(R_A, F_A, 9), (R_M, F_M, 4), (R_I, F_I, 2), (R_Rf, F_Rf, 16)]
abbrev b_M_init : ByteArray := prog_5_method_1_code
abbrev y_M_init : MethodName := ⟨"AppletFirewall$Memory", "<init>", "()V"⟩
abbrev w_M_init : List Cond := .code y_M_init b_M_init 2 none :: lw_g
abbrev b_M_at : ByteArray := prog_5_method_2_code
abbrev y_M_at : MethodName := ⟨"AppletFirewall$Memory", "at", "(I)I"⟩
abbrev w_M_at : List Cond := .code y_M_at b_M_at 2 (some .int) :: lw_g
abbrev b_M_count : ByteArray := prog_5_method_3_code
abbrev y_M_count : MethodName := ⟨"AppletFirewall$Memory", "count", "()I"⟩
abbrev w_M_count : List Cond := .code y_M_count b_M_count 1 (some .int) :: lw_g
abbrev b_M_written : ByteArray := prog_5_method_4_code
abbrev y_M_written : MethodName := ⟨"AppletFirewall$Memory", "written", "()I"⟩
abbrev w_M_written : List Cond := .code y_M_written b_M_written 1 (some .int) :: lw_g
abbrev b_M_failed : ByteArray := prog_5_method_5_code
abbrev y_M_failed : MethodName := ⟨"AppletFirewall$Memory", "failed", "()I"⟩
abbrev w_M_failed : List Cond := .code y_M_failed b_M_failed 1 (some .int) :: lw_g
abbrev b_M_arm : ByteArray := prog_5_method_6_code
abbrev y_M_arm : MethodName := ⟨"AppletFirewall$Memory", "arm", "(I)V"⟩
abbrev w_M_arm : List Cond := .code y_M_arm b_M_arm 2 none :: lw_g
abbrev b_M_write : ByteArray := prog_5_method_7_code
abbrev y_M_write : MethodName := ⟨"AppletFirewall$Memory", "write", "(II)Z"⟩
abbrev w_M_write : List Cond := .code y_M_write b_M_write 3 (some .boolean) :: lw_g
abbrev b_M_change : ByteArray := prog_5_method_8_code
abbrev y_M_change : MethodName := ⟨"AppletFirewall$Memory", "change", "(II)Z"⟩
abbrev w_M_change : List Cond := .code y_M_change b_M_change 4 (some .boolean) :: lw_g
abbrev b_M_settle : ByteArray := prog_5_method_10_code
abbrev y_M_settle : MethodName := ⟨"AppletFirewall$Memory", "settle", "()Z"⟩
abbrev w_M_settle : List Cond := .code y_M_settle b_M_settle 1 (some .boolean) :: lw_g
abbrev b_M_undo : ByteArray := prog_5_method_9_code
abbrev y_M_undo : MethodName := ⟨"AppletFirewall$Memory", "undo", "()Z"⟩
abbrev w_M_undo : List Cond := .code y_M_undo b_M_undo 3 (some .boolean) :: lw_g
abbrev b_I_init : ByteArray := prog_3_method_1_code
abbrev y_I_init : MethodName := ⟨"AppletFirewall$Input", "<init>", "()V"⟩
abbrev w_I_init : List Cond := .code y_I_init b_I_init 1 none :: lw_g
abbrev b_I_append : ByteArray := prog_3_method_2_code
abbrev y_I_append : MethodName := ⟨"AppletFirewall$Input", "append", "(JI)Z"⟩
abbrev w_I_append : List Cond := .code y_I_append b_I_append 5 (some .boolean) :: lw_g
abbrev b_I_clear : ByteArray := prog_3_method_3_code
abbrev y_I_clear : MethodName := ⟨"AppletFirewall$Input", "clear", "()V"⟩
abbrev w_I_clear : List Cond := .code y_I_clear b_I_clear 1 none :: lw_g
abbrev b_I_size : ByteArray := prog_3_method_4_code
abbrev y_I_size : MethodName := ⟨"AppletFirewall$Input", "size", "()I"⟩
abbrev w_I_size : List Cond := .code y_I_size b_I_size 1 (some .int) :: lw_g
abbrev b_I_lc : ByteArray := prog_3_method_10_code
abbrev y_I_lc : MethodName := ⟨"AppletFirewall$Input", "lc", "()I"⟩
abbrev w_I_lc : List Cond := .code y_I_lc b_I_lc 1 (some .int) :: lw_g
abbrev b_I_shape : ByteArray := prog_3_method_5_code
abbrev y_I_shape : MethodName := ⟨"AppletFirewall$Input", "shape", "()I"⟩
abbrev w_I_shape : List Cond := .code y_I_shape b_I_shape 1 (some .int) :: lw_g
abbrev b_I_cardClass : ByteArray := prog_3_method_6_code
abbrev y_I_cardClass : MethodName := ⟨"AppletFirewall$Input", "cardClass", "()I"⟩
abbrev w_I_cardClass : List Cond := .code y_I_cardClass b_I_cardClass 1 (some .int) :: lw_g
abbrev b_I_instruction : ByteArray := prog_3_method_7_code
abbrev y_I_instruction : MethodName := ⟨"AppletFirewall$Input", "instruction", "()I"⟩
abbrev w_I_instruction : List Cond := .code y_I_instruction b_I_instruction 1 (some .int) :: lw_g
abbrev b_I_p1 : ByteArray := prog_3_method_8_code
abbrev y_I_p1 : MethodName := ⟨"AppletFirewall$Input", "p1", "()I"⟩
abbrev w_I_p1 : List Cond := .code y_I_p1 b_I_p1 1 (some .int) :: lw_g
abbrev b_I_p2 : ByteArray := prog_3_method_9_code
abbrev y_I_p2 : MethodName := ⟨"AppletFirewall$Input", "p2", "()I"⟩
abbrev w_I_p2 : List Cond := .code y_I_p2 b_I_p2 1 (some .int) :: lw_g
abbrev b_I_le : ByteArray := prog_3_method_11_code
abbrev y_I_le : MethodName := ⟨"AppletFirewall$Input", "le", "()I"⟩
abbrev w_I_le : List Cond := .code y_I_le b_I_le 1 (some .int) :: lw_g
abbrev b_I_payload : ByteArray := prog_3_method_12_code
abbrev y_I_payload : MethodName := ⟨"AppletFirewall$Input", "payload", "(I)I"⟩
abbrev w_I_payload : List Cond := .code y_I_payload b_I_payload 2 (some .int) :: lw_g
abbrev b_I_row : ByteArray := prog_3_method_13_code
abbrev y_I_row : MethodName := ⟨"AppletFirewall$Input", "row", "()[I"⟩
abbrev w_I_row : List Cond := .code y_I_row b_I_row 1 (some (.array .int)) :: lw_g
abbrev b_A_init : ByteArray := prog_1_method_1_code
abbrev y_A_init : MethodName := ⟨"AppletFirewall", "<init>", "()V"⟩
abbrev w_A_init : List Cond := .code y_A_init b_A_init 1 none :: lw_g
abbrev b_A_doneIf : ByteArray := prog_1_method_34_code
abbrev y_A_doneIf : MethodName := ⟨"AppletFirewall", "doneIf", "(Z)I"⟩
abbrev w_A_doneIf : List Cond := .code y_A_doneIf b_A_doneIf 1 (some .int) :: lw_g
abbrev b_A_isApplet : ByteArray := prog_1_method_39_code
abbrev y_A_isApplet : MethodName := ⟨"AppletFirewall", "isApplet", "(I)Z"⟩
abbrev w_A_isApplet : List Cond := .code y_A_isApplet b_A_isApplet 1 (some .boolean) :: lw_g
abbrev b_A_dataPlace : ByteArray := prog_1_method_40_code
abbrev y_A_dataPlace : MethodName := ⟨"AppletFirewall", "dataPlace", "(II)I"⟩
abbrev w_A_dataPlace : List Cond := .code y_A_dataPlace b_A_dataPlace 2 (some .int) :: lw_g
abbrev b_A_secretPlace : ByteArray := prog_1_method_41_code
abbrev y_A_secretPlace : MethodName := ⟨"AppletFirewall", "secretPlace", "(I)I"⟩
abbrev w_A_secretPlace : List Cond := .code y_A_secretPlace b_A_secretPlace 1 (some .int) :: lw_g
abbrev b_A_triesPlace : ByteArray := prog_1_method_42_code
abbrev y_A_triesPlace : MethodName := ⟨"AppletFirewall", "triesPlace", "(I)I"⟩
abbrev w_A_triesPlace : List Cond := .code y_A_triesPlace b_A_triesPlace 1 (some .int) :: lw_g
abbrev b_A_sharePlace : ByteArray := prog_1_method_43_code
abbrev y_A_sharePlace : MethodName := ⟨"AppletFirewall", "sharePlace", "(I)I"⟩
abbrev w_A_sharePlace : List Cond := .code y_A_sharePlace b_A_sharePlace 1 (some .int) :: lw_g
abbrev b_A_put : ByteArray := prog_1_method_2_code
abbrev y_A_put : MethodName := ⟨"AppletFirewall", "put", "(JI)Z"⟩
abbrev w_A_put : List Cond := .code y_A_put b_A_put 4 (some .boolean) :: lw_g
abbrev b_A_waiting : ByteArray := prog_1_method_4_code
abbrev y_A_waiting : MethodName := ⟨"AppletFirewall", "waiting", "()I"⟩
abbrev w_A_waiting : List Cond := .code y_A_waiting b_A_waiting 1 (some .int) :: lw_g
abbrev b_A_length : ByteArray := prog_1_method_5_code
abbrev y_A_length : MethodName := ⟨"AppletFirewall", "length", "()I"⟩
abbrev w_A_length : List Cond := .code y_A_length b_A_length 1 (some .int) :: lw_g
abbrev b_A_response : ByteArray := prog_1_method_6_code
abbrev y_A_response : MethodName := ⟨"AppletFirewall", "response", "(I)I"⟩
abbrev w_A_response : List Cond := .code y_A_response b_A_response 2 (some .int) :: lw_g
abbrev b_A_tear : ByteArray := prog_1_method_7_code
abbrev y_A_tear : MethodName := ⟨"AppletFirewall", "tear", "(I)Z"⟩
abbrev w_A_tear : List Cond := .code y_A_tear b_A_tear 2 (some .boolean) :: lw_g
abbrev b_A_switchOff : ByteArray := prog_1_method_16_code
abbrev y_A_switchOff : MethodName := ⟨"AppletFirewall", "switchOff", "()V"⟩
abbrev w_A_switchOff : List Cond := .code y_A_switchOff b_A_switchOff 1 none :: lw_g
abbrev b_A_reset : ByteArray := prog_1_method_8_code
abbrev y_A_reset : MethodName := ⟨"AppletFirewall", "reset", "()I"⟩
abbrev w_A_reset : List Cond := .code y_A_reset b_A_reset 2 (some .int) :: lw_g
abbrev b_A_writes : ByteArray := prog_1_method_9_code
abbrev y_A_writes : MethodName := ⟨"AppletFirewall", "writes", "()I"⟩
abbrev w_A_writes : List Cond := .code y_A_writes b_A_writes 1 (some .int) :: lw_g
abbrev b_A_failures : ByteArray := prog_1_method_10_code
abbrev y_A_failures : MethodName := ⟨"AppletFirewall", "failures", "()I"⟩
abbrev w_A_failures : List Cond := .code y_A_failures b_A_failures 1 (some .int) :: lw_g
abbrev b_A_data : ByteArray := prog_1_method_11_code
abbrev y_A_data : MethodName := ⟨"AppletFirewall", "data", "(II)I"⟩
abbrev w_A_data : List Cond := .code y_A_data b_A_data 3 (some .int) :: lw_g
abbrev b_A_tries : ByteArray := prog_1_method_12_code
abbrev y_A_tries : MethodName := ⟨"AppletFirewall", "tries", "(I)I"⟩
abbrev w_A_tries : List Cond := .code y_A_tries b_A_tries 2 (some .int) :: lw_g
abbrev b_A_shareByte : ByteArray := prog_1_method_37_code
abbrev y_A_shareByte : MethodName := ⟨"AppletFirewall", "shareByte", "(II)I"⟩
abbrev w_A_shareByte : List Cond := .code y_A_shareByte b_A_shareByte 3 (some .int) :: lw_g
abbrev b_A_share : ByteArray := prog_1_method_13_code
abbrev y_A_share : MethodName := ⟨"AppletFirewall", "share", "(I)I"⟩
abbrev w_A_share : List Cond := .code y_A_share b_A_share 4 (some .int) :: lw_g
abbrev b_A_pending : ByteArray := prog_1_method_14_code
abbrev y_A_pending : MethodName := ⟨"AppletFirewall", "pending", "()I"⟩
abbrev w_A_pending : List Cond := .code y_A_pending b_A_pending 1 (some .int) :: lw_g
abbrev b_A_session : ByteArray := prog_1_method_15_code
abbrev y_A_session : MethodName := ⟨"AppletFirewall", "session", "()I"⟩
abbrev w_A_session : List Cond := .code y_A_session b_A_session 1 (some .int) :: lw_g
abbrev b_A_ownerOf : ByteArray := prog_1_method_35_code
abbrev y_A_ownerOf : MethodName := ⟨"AppletFirewall", "ownerOf", "(I)I"⟩
abbrev w_A_ownerOf : List Cond := .code y_A_ownerOf b_A_ownerOf 3 (some .int) :: lw_g
abbrev b_A_clientOf : ByteArray := prog_1_method_36_code
abbrev y_A_clientOf : MethodName := ⟨"AppletFirewall", "clientOf", "(I)I"⟩
abbrev w_A_clientOf : List Cond := .code y_A_clientOf b_A_clientOf 3 (some .int) :: lw_g
abbrev b_A_sharedPlace : ByteArray := prog_1_method_38_code
abbrev y_A_sharedPlace : MethodName := ⟨"AppletFirewall", "sharedPlace", "(II)I"⟩
abbrev w_A_sharedPlace : List Cond := .code y_A_sharedPlace b_A_sharedPlace 3 (some .int) :: lw_g
abbrev b_A_respond : ByteArray := prog_1_method_31_code
abbrev y_A_respond : MethodName := ⟨"AppletFirewall", "respond", "(II)I"⟩
abbrev w_A_respond : List Cond := .code y_A_respond b_A_respond 4 (some .int) :: lw_g
abbrev b_A_store : ByteArray := prog_1_method_33_code
abbrev y_A_store : MethodName := ⟨"AppletFirewall", "store", "(I[III)I"⟩
abbrev w_A_store : List Cond := .code y_A_store b_A_store 6 (some .int) :: lw_g
abbrev b_A_storePayload : ByteArray := prog_1_method_32_code
abbrev y_A_storePayload : MethodName := ⟨"AppletFirewall", "storePayload", "(I)I"⟩
abbrev w_A_storePayload : List Cond := .code y_A_storePayload b_A_storePayload 2 (some .int) :: lw_g
abbrev b_A_select : ByteArray := prog_1_method_19_code
abbrev y_A_select : MethodName := ⟨"AppletFirewall", "select", "()I"⟩
abbrev w_A_select : List Cond := .code y_A_select b_A_select 2 (some .int) :: lw_g
abbrev b_A_payloadIsSecret : ByteArray := prog_1_method_21_code
abbrev y_A_payloadIsSecret : MethodName := ⟨"AppletFirewall", "payloadIsSecret", "()Z"⟩
abbrev w_A_payloadIsSecret : List Cond := .code y_A_payloadIsSecret b_A_payloadIsSecret 3 (some .boolean) :: lw_g
abbrev b_A_verify : ByteArray := prog_1_method_20_code
abbrev y_A_verify : MethodName := ⟨"AppletFirewall", "verify", "()I"⟩
abbrev w_A_verify : List Cond := .code y_A_verify b_A_verify 3 (some .int) :: lw_g
abbrev b_A_unblock : ByteArray := prog_1_method_22_code
abbrev y_A_unblock : MethodName := ⟨"AppletFirewall", "unblock", "()I"⟩
abbrev w_A_unblock : List Cond := .code y_A_unblock b_A_unblock 1 (some .int) :: lw_g
abbrev b_A_read : ByteArray := prog_1_method_23_code
abbrev y_A_read : MethodName := ⟨"AppletFirewall", "read", "()I"⟩
abbrev w_A_read : List Cond := .code y_A_read b_A_read 1 (some .int) :: lw_g
abbrev b_A_update : ByteArray := prog_1_method_24_code
abbrev y_A_update : MethodName := ⟨"AppletFirewall", "update", "()I"⟩
abbrev w_A_update : List Cond := .code y_A_update b_A_update 1 (some .int) :: lw_g
abbrev b_A_begin : ByteArray := prog_1_method_25_code
abbrev y_A_begin : MethodName := ⟨"AppletFirewall", "begin", "()I"⟩
abbrev w_A_begin : List Cond := .code y_A_begin b_A_begin 1 (some .int) :: lw_g
abbrev b_A_end : ByteArray := prog_1_method_26_code
abbrev y_A_end : MethodName := ⟨"AppletFirewall", "end", "()I"⟩
abbrev w_A_end : List Cond := .code y_A_end b_A_end 2 (some .int) :: lw_g
abbrev b_A_grant : ByteArray := prog_1_method_27_code
abbrev y_A_grant : MethodName := ⟨"AppletFirewall", "grant", "()I"⟩
abbrev w_A_grant : List Cond := .code y_A_grant b_A_grant 6 (some .int) :: lw_g
abbrev b_A_revoke : ByteArray := prog_1_method_28_code
abbrev y_A_revoke : MethodName := ⟨"AppletFirewall", "revoke", "()I"⟩
abbrev w_A_revoke : List Cond := .code y_A_revoke b_A_revoke 2 (some .int) :: lw_g
abbrev b_A_readShared : ByteArray := prog_1_method_29_code
abbrev y_A_readShared : MethodName := ⟨"AppletFirewall", "readShared", "()I"⟩
abbrev w_A_readShared : List Cond := .code y_A_readShared b_A_readShared 2 (some .int) :: lw_g
abbrev b_A_updateShared : ByteArray := prog_1_method_30_code
abbrev y_A_updateShared : MethodName := ⟨"AppletFirewall", "updateShared", "()I"⟩
abbrev w_A_updateShared : List Cond := .code y_A_updateShared b_A_updateShared 2 (some .int) :: lw_g
abbrev b_Rf_init : ByteArray := prog_7_method_1_code
abbrev y_Rf_init : MethodName := ⟨"AppletFirewallModel", "<init>", "()V"⟩
abbrev w_Rf_init : List Cond := .code y_Rf_init b_Rf_init 2 none :: lw_g
abbrev b_Rf_forget : ByteArray := prog_7_method_2_code
abbrev y_Rf_forget : MethodName := ⟨"AppletFirewallModel", "forget", "()V"⟩
abbrev w_Rf_forget : List Cond := .code y_Rf_forget b_Rf_forget 1 none :: lw_g
abbrev b_Rf_write : ByteArray := prog_7_method_3_code
abbrev y_Rf_write : MethodName := ⟨"AppletFirewallModel", "write", "()Z"⟩
abbrev w_Rf_write : List Cond := .code y_Rf_write b_Rf_write 1 (some .boolean) :: lw_g
abbrev b_Rf_several : ByteArray := prog_7_method_4_code
abbrev y_Rf_several : MethodName := ⟨"AppletFirewallModel", "several", "(I)Z"⟩
abbrev w_Rf_several : List Cond := .code y_Rf_several b_Rf_several 3 (some .boolean) :: lw_g
abbrev b_Rf_change : ByteArray := prog_7_method_5_code
abbrev y_Rf_change : MethodName := ⟨"AppletFirewallModel", "change", "(II)Z"⟩
abbrev w_Rf_change : List Cond := .code y_Rf_change b_Rf_change 4 (some .boolean) :: lw_g
abbrev b_Rf_settle : ByteArray := prog_7_method_6_code
abbrev y_Rf_settle : MethodName := ⟨"AppletFirewallModel", "settle", "()Z"⟩
abbrev w_Rf_settle : List Cond := .code y_Rf_settle b_Rf_settle 1 (some .boolean) :: lw_g
abbrev b_Rf_undo : ByteArray := prog_7_method_7_code
abbrev y_Rf_undo : MethodName := ⟨"AppletFirewallModel", "undo", "()Z"⟩
abbrev w_Rf_undo : List Cond := .code y_Rf_undo b_Rf_undo 2 (some .boolean) :: lw_g
abbrev b_Rf_tear : ByteArray := prog_7_method_8_code
abbrev y_Rf_tear : MethodName := ⟨"AppletFirewallModel", "tear", "(I)Z"⟩
abbrev w_Rf_tear : List Cond := .code y_Rf_tear b_Rf_tear 2 (some .boolean) :: lw_g
abbrev b_Rf_reset : ByteArray := prog_7_method_9_code
abbrev y_Rf_reset : MethodName := ⟨"AppletFirewallModel", "reset", "()I"⟩
abbrev w_Rf_reset : List Cond := .code y_Rf_reset b_Rf_reset 2 (some .int) :: lw_g
abbrev b_Rf_put : ByteArray := prog_7_method_10_code
abbrev y_Rf_put : MethodName := ⟨"AppletFirewallModel", "put", "(JI)Z"⟩
abbrev w_Rf_put : List Cond := .code y_Rf_put b_Rf_put 5 (some .boolean) :: lw_g
abbrev b_Rf_shape : ByteArray := prog_7_method_11_code
abbrev y_Rf_shape : MethodName := ⟨"AppletFirewallModel", "shape", "()I"⟩
abbrev w_Rf_shape : List Cond := .code y_Rf_shape b_Rf_shape 2 (some .int) :: lw_g
abbrev b_Rf_starred : ByteArray := prog_7_method_12_code
abbrev y_Rf_starred : MethodName := ⟨"AppletFirewallModel", "starred", "(I)Z"⟩
abbrev w_Rf_starred : List Cond := .code y_Rf_starred b_Rf_starred 1 (some .boolean) :: lw_g
abbrev b_Rf_known : ByteArray := prog_7_method_13_code
abbrev y_Rf_known : MethodName := ⟨"AppletFirewallModel", "known", "(I)Z"⟩
abbrev w_Rf_known : List Cond := .code y_Rf_known b_Rf_known 1 (some .boolean) :: lw_g
abbrev b_Rf_shapeOf : ByteArray := prog_7_method_14_code
abbrev y_Rf_shapeOf : MethodName := ⟨"AppletFirewallModel", "shapeOf", "(I)I"⟩
abbrev w_Rf_shapeOf : List Cond := .code y_Rf_shapeOf b_Rf_shapeOf 1 (some .int) :: lw_g
abbrev b_Rf_lengthWrong : ByteArray := prog_7_method_15_code
abbrev y_Rf_lengthWrong : MethodName := ⟨"AppletFirewallModel", "lengthWrong", "(I)Z"⟩
abbrev w_Rf_lengthWrong : List Cond := .code y_Rf_lengthWrong b_Rf_lengthWrong 3 (some .boolean) :: lw_g
abbrev b_Rf_placesWrong : ByteArray := prog_7_method_16_code
abbrev y_Rf_placesWrong : MethodName := ⟨"AppletFirewallModel", "placesWrong", "(I)Z"⟩
abbrev w_Rf_placesWrong : List Cond := .code y_Rf_placesWrong b_Rf_placesWrong 4 (some .boolean) :: lw_g
abbrev b_Rf_refuse : ByteArray := prog_7_method_17_code
abbrev y_Rf_refuse : MethodName := ⟨"AppletFirewallModel", "refuse", "()I"⟩
abbrev w_Rf_refuse : List Cond := .code y_Rf_refuse b_Rf_refuse 3 (some .int) :: lw_g
abbrev b_Rf_store : ByteArray := prog_7_method_20_code
abbrev y_Rf_store : MethodName := ⟨"AppletFirewallModel", "store", "(II)I"⟩
abbrev w_Rf_store : List Cond := .code y_Rf_store b_Rf_store 4 (some .int) :: lw_g
abbrev b_Rf_select : ByteArray := prog_7_method_21_code
abbrev y_Rf_select : MethodName := ⟨"AppletFirewallModel", "select", "(I)I"⟩
abbrev w_Rf_select : List Cond := .code y_Rf_select b_Rf_select 2 (some .int) :: lw_g
abbrev b_Rf_verify : ByteArray := prog_7_method_22_code
abbrev y_Rf_verify : MethodName := ⟨"AppletFirewallModel", "verify", "()I"⟩
abbrev w_Rf_verify : List Cond := .code y_Rf_verify b_Rf_verify 2 (some .int) :: lw_g
abbrev b_Rf_unblock : ByteArray := prog_7_method_23_code
abbrev y_Rf_unblock : MethodName := ⟨"AppletFirewallModel", "unblock", "(I)I"⟩
abbrev w_Rf_unblock : List Cond := .code y_Rf_unblock b_Rf_unblock 2 (some .int) :: lw_g
abbrev b_Rf_begin : ByteArray := prog_7_method_24_code
abbrev y_Rf_begin : MethodName := ⟨"AppletFirewallModel", "begin", "()I"⟩
abbrev w_Rf_begin : List Cond := .code y_Rf_begin b_Rf_begin 1 (some .int) :: lw_g
abbrev b_Rf_end : ByteArray := prog_7_method_25_code
abbrev y_Rf_end : MethodName := ⟨"AppletFirewallModel", "end", "(I)I"⟩
abbrev w_Rf_end : List Cond := .code y_Rf_end b_Rf_end 3 (some .int) :: lw_g
abbrev b_Rf_read : ByteArray := prog_7_method_26_code
abbrev y_Rf_read : MethodName := ⟨"AppletFirewallModel", "read", "(III)I"⟩
abbrev w_Rf_read : List Cond := .code y_Rf_read b_Rf_read 6 (some .int) :: lw_g
abbrev b_Rf_grant : ByteArray := prog_7_method_27_code
abbrev y_Rf_grant : MethodName := ⟨"AppletFirewallModel", "grant", "(I)I"⟩
abbrev w_Rf_grant : List Cond := .code y_Rf_grant b_Rf_grant 6 (some .int) :: lw_g
abbrev b_Rf_shared : ByteArray := prog_7_method_28_code
abbrev y_Rf_shared : MethodName := ⟨"AppletFirewallModel", "shared", "(III)I"⟩
abbrev w_Rf_shared : List Cond := .code y_Rf_shared b_Rf_shared 8 (some .int) :: lw_g
abbrev b_Rf_carry : ByteArray := prog_7_method_19_code
abbrev y_Rf_carry : MethodName := ⟨"AppletFirewallModel", "carry", "(III)I"⟩
abbrev w_Rf_carry : List Cond := .code y_Rf_carry b_Rf_carry 4 (some .int) :: lw_g
abbrev b_Rf_run : ByteArray := prog_7_method_18_code
abbrev y_Rf_run : MethodName := ⟨"AppletFirewallModel", "run", "()I"⟩
abbrev w_Rf_run : List Cond := .code y_Rf_run b_Rf_run 2 (some .int) :: lw_g
abbrev b_Rf_waiting : ByteArray := prog_7_method_29_code
abbrev y_Rf_waiting : MethodName := ⟨"AppletFirewallModel", "waiting", "()I"⟩
abbrev w_Rf_waiting : List Cond := .code y_Rf_waiting b_Rf_waiting 1 (some .int) :: lw_g
abbrev b_Rf_length : ByteArray := prog_7_method_30_code
abbrev y_Rf_length : MethodName := ⟨"AppletFirewallModel", "length", "()I"⟩
abbrev w_Rf_length : List Cond := .code y_Rf_length b_Rf_length 1 (some .int) :: lw_g
abbrev b_Rf_response : ByteArray := prog_7_method_31_code
abbrev y_Rf_response : MethodName := ⟨"AppletFirewallModel", "response", "(I)I"⟩
abbrev w_Rf_response : List Cond := .code y_Rf_response b_Rf_response 2 (some .int) :: lw_g
abbrev b_Rf_writes : ByteArray := prog_7_method_32_code
abbrev y_Rf_writes : MethodName := ⟨"AppletFirewallModel", "writes", "()I"⟩
abbrev w_Rf_writes : List Cond := .code y_Rf_writes b_Rf_writes 1 (some .int) :: lw_g
abbrev b_Rf_failures : ByteArray := prog_7_method_33_code
abbrev y_Rf_failures : MethodName := ⟨"AppletFirewallModel", "failures", "()I"⟩
abbrev w_Rf_failures : List Cond := .code y_Rf_failures b_Rf_failures 1 (some .int) :: lw_g
abbrev b_Rf_data : ByteArray := prog_7_method_34_code
abbrev y_Rf_data : MethodName := ⟨"AppletFirewallModel", "data", "(II)I"⟩
abbrev w_Rf_data : List Cond := .code y_Rf_data b_Rf_data 3 (some .int) :: lw_g
abbrev b_Rf_tries : ByteArray := prog_7_method_35_code
abbrev y_Rf_tries : MethodName := ⟨"AppletFirewallModel", "tries", "(I)I"⟩
abbrev w_Rf_tries : List Cond := .code y_Rf_tries b_Rf_tries 2 (some .int) :: lw_g
abbrev b_Rf_share : ByteArray := prog_7_method_36_code
abbrev y_Rf_share : MethodName := ⟨"AppletFirewallModel", "share", "(I)I"⟩
abbrev w_Rf_share : List Cond := .code y_Rf_share b_Rf_share 3 (some .int) :: lw_g
abbrev b_Rf_pending : ByteArray := prog_7_method_37_code
abbrev y_Rf_pending : MethodName := ⟨"AppletFirewallModel", "pending", "()I"⟩
abbrev w_Rf_pending : List Cond := .code y_Rf_pending b_Rf_pending 1 (some .int) :: lw_g
abbrev b_Rf_session : ByteArray := prog_7_method_38_code
abbrev y_Rf_session : MethodName := ⟨"AppletFirewallModel", "session", "()I"⟩
abbrev w_Rf_session : List Cond := .code y_Rf_session b_Rf_session 1 (some .int) :: lw_g
theorem mw3 : (.selects "AppletFirewall" ⟨"AppletFirewall", "respond", "(II)I"⟩ ⟨"AppletFirewall", "respond", "(II)I"⟩ : Cond) ∈ lw_g := List.mem_filter.mpr ⟨List.mem_of_getElem? (i := 3) (by decide +kernel), by decide +kernel⟩
theorem mw5 : (.selects "AppletFirewall" ⟨"AppletFirewall", "payloadIsSecret", "()Z"⟩ ⟨"AppletFirewall", "payloadIsSecret", "()Z"⟩ : Cond) ∈ lw_g := List.mem_filter.mpr ⟨List.mem_of_getElem? (i := 5) (by decide +kernel), by decide +kernel⟩
theorem mw6 : (.selects "AppletFirewall" ⟨"AppletFirewall", "storePayload", "(I)I"⟩ ⟨"AppletFirewall", "storePayload", "(I)I"⟩ : Cond) ∈ lw_g := List.mem_filter.mpr ⟨List.mem_of_getElem? (i := 6) (by decide +kernel), by decide +kernel⟩
theorem mw7 : (.selects "AppletFirewall" ⟨"AppletFirewall", "store", "(I[III)I"⟩ ⟨"AppletFirewall", "store", "(I[III)I"⟩ : Cond) ∈ lw_g := List.mem_filter.mpr ⟨List.mem_of_getElem? (i := 7) (by decide +kernel), by decide +kernel⟩
theorem mw14 : (.selects "AppletFirewall" ⟨"AppletFirewall", "ownerOf", "(I)I"⟩ ⟨"AppletFirewall", "ownerOf", "(I)I"⟩ : Cond) ∈ lw_g := List.mem_filter.mpr ⟨List.mem_of_getElem? (i := 14) (by decide +kernel), by decide +kernel⟩
theorem mw15 : (.selects "AppletFirewall" ⟨"AppletFirewall", "shareByte", "(II)I"⟩ ⟨"AppletFirewall", "shareByte", "(II)I"⟩ : Cond) ∈ lw_g := List.mem_filter.mpr ⟨List.mem_of_getElem? (i := 15) (by decide +kernel), by decide +kernel⟩
theorem mw18 : (.selects "AppletFirewall" ⟨"AppletFirewall", "clientOf", "(I)I"⟩ ⟨"AppletFirewall", "clientOf", "(I)I"⟩ : Cond) ∈ lw_g := List.mem_filter.mpr ⟨List.mem_of_getElem? (i := 18) (by decide +kernel), by decide +kernel⟩
theorem mw19 : (.selects "AppletFirewall" ⟨"AppletFirewall", "sharedPlace", "(II)I"⟩ ⟨"AppletFirewall", "sharedPlace", "(II)I"⟩ : Cond) ∈ lw_g := List.mem_filter.mpr ⟨List.mem_of_getElem? (i := 19) (by decide +kernel), by decide +kernel⟩
theorem mw21 : (.selects "AppletFirewall" ⟨"AppletFirewall", "switchOff", "()V"⟩ ⟨"AppletFirewall", "switchOff", "()V"⟩ : Cond) ∈ lw_g := List.mem_filter.mpr ⟨List.mem_of_getElem? (i := 21) (by decide +kernel), by decide +kernel⟩
theorem mw22 : (.selects "AppletFirewallModel" ⟨"AppletFirewallModel", "forget", "()V"⟩ ⟨"AppletFirewallModel", "forget", "()V"⟩ : Cond) ∈ lw_g := List.mem_filter.mpr ⟨List.mem_of_getElem? (i := 22) (by decide +kernel), by decide +kernel⟩
theorem mw23 : (.selects "AppletFirewallModel" ⟨"AppletFirewallModel", "undo", "()Z"⟩ ⟨"AppletFirewallModel", "undo", "()Z"⟩ : Cond) ∈ lw_g := List.mem_filter.mpr ⟨List.mem_of_getElem? (i := 23) (by decide +kernel), by decide +kernel⟩
theorem mw24 : (.selects "AppletFirewallModel" ⟨"AppletFirewallModel", "several", "(I)Z"⟩ ⟨"AppletFirewallModel", "several", "(I)Z"⟩ : Cond) ∈ lw_g := List.mem_filter.mpr ⟨List.mem_of_getElem? (i := 24) (by decide +kernel), by decide +kernel⟩
theorem mw25 : (.selects "AppletFirewallModel" ⟨"AppletFirewallModel", "write", "()Z"⟩ ⟨"AppletFirewallModel", "write", "()Z"⟩ : Cond) ∈ lw_g := List.mem_filter.mpr ⟨List.mem_of_getElem? (i := 25) (by decide +kernel), by decide +kernel⟩
theorem mw26 : (.selects "AppletFirewallModel" ⟨"AppletFirewallModel", "refuse", "()I"⟩ ⟨"AppletFirewallModel", "refuse", "()I"⟩ : Cond) ∈ lw_g := List.mem_filter.mpr ⟨List.mem_of_getElem? (i := 26) (by decide +kernel), by decide +kernel⟩
theorem mw27 : (.selects "AppletFirewallModel" ⟨"AppletFirewallModel", "shape", "()I"⟩ ⟨"AppletFirewallModel", "shape", "()I"⟩ : Cond) ∈ lw_g := List.mem_filter.mpr ⟨List.mem_of_getElem? (i := 27) (by decide +kernel), by decide +kernel⟩
theorem mw28 : (.selects "AppletFirewallModel" ⟨"AppletFirewallModel", "lengthWrong", "(I)Z"⟩ ⟨"AppletFirewallModel", "lengthWrong", "(I)Z"⟩ : Cond) ∈ lw_g := List.mem_filter.mpr ⟨List.mem_of_getElem? (i := 28) (by decide +kernel), by decide +kernel⟩
theorem mw29 : (.selects "AppletFirewallModel" ⟨"AppletFirewallModel", "placesWrong", "(I)Z"⟩ ⟨"AppletFirewallModel", "placesWrong", "(I)Z"⟩ : Cond) ∈ lw_g := List.mem_filter.mpr ⟨List.mem_of_getElem? (i := 29) (by decide +kernel), by decide +kernel⟩
theorem mw30 : (.selects "AppletFirewallModel" ⟨"AppletFirewallModel", "carry", "(III)I"⟩ ⟨"AppletFirewallModel", "carry", "(III)I"⟩ : Cond) ∈ lw_g := List.mem_filter.mpr ⟨List.mem_of_getElem? (i := 30) (by decide +kernel), by decide +kernel⟩
theorem mw31 : (.selects "AppletFirewallModel" ⟨"AppletFirewallModel", "select", "(I)I"⟩ ⟨"AppletFirewallModel", "select", "(I)I"⟩ : Cond) ∈ lw_g := List.mem_filter.mpr ⟨List.mem_of_getElem? (i := 31) (by decide +kernel), by decide +kernel⟩
theorem mw32 : (.selects "AppletFirewallModel" ⟨"AppletFirewallModel", "verify", "()I"⟩ ⟨"AppletFirewallModel", "verify", "()I"⟩ : Cond) ∈ lw_g := List.mem_filter.mpr ⟨List.mem_of_getElem? (i := 32) (by decide +kernel), by decide +kernel⟩
theorem mw33 : (.selects "AppletFirewallModel" ⟨"AppletFirewallModel", "store", "(II)I"⟩ ⟨"AppletFirewallModel", "store", "(II)I"⟩ : Cond) ∈ lw_g := List.mem_filter.mpr ⟨List.mem_of_getElem? (i := 33) (by decide +kernel), by decide +kernel⟩
theorem mw34 : (.selects "AppletFirewallModel" ⟨"AppletFirewallModel", "change", "(II)Z"⟩ ⟨"AppletFirewallModel", "change", "(II)Z"⟩ : Cond) ∈ lw_g := List.mem_filter.mpr ⟨List.mem_of_getElem? (i := 34) (by decide +kernel), by decide +kernel⟩
theorem mw35 : (.selects "AppletFirewallModel" ⟨"AppletFirewallModel", "settle", "()Z"⟩ ⟨"AppletFirewallModel", "settle", "()Z"⟩ : Cond) ∈ lw_g := List.mem_filter.mpr ⟨List.mem_of_getElem? (i := 35) (by decide +kernel), by decide +kernel⟩
theorem mw36 : (.selects "AppletFirewallModel" ⟨"AppletFirewallModel", "unblock", "(I)I"⟩ ⟨"AppletFirewallModel", "unblock", "(I)I"⟩ : Cond) ∈ lw_g := List.mem_filter.mpr ⟨List.mem_of_getElem? (i := 36) (by decide +kernel), by decide +kernel⟩
theorem mw37 : (.selects "AppletFirewallModel" ⟨"AppletFirewallModel", "read", "(III)I"⟩ ⟨"AppletFirewallModel", "read", "(III)I"⟩ : Cond) ∈ lw_g := List.mem_filter.mpr ⟨List.mem_of_getElem? (i := 37) (by decide +kernel), by decide +kernel⟩
theorem mw38 : (.selects "AppletFirewallModel" ⟨"AppletFirewallModel", "begin", "()I"⟩ ⟨"AppletFirewallModel", "begin", "()I"⟩ : Cond) ∈ lw_g := List.mem_filter.mpr ⟨List.mem_of_getElem? (i := 38) (by decide +kernel), by decide +kernel⟩
theorem mw39 : (.selects "AppletFirewallModel" ⟨"AppletFirewallModel", "end", "(I)I"⟩ ⟨"AppletFirewallModel", "end", "(I)I"⟩ : Cond) ∈ lw_g := List.mem_filter.mpr ⟨List.mem_of_getElem? (i := 39) (by decide +kernel), by decide +kernel⟩
theorem mw40 : (.selects "AppletFirewallModel" ⟨"AppletFirewallModel", "grant", "(I)I"⟩ ⟨"AppletFirewallModel", "grant", "(I)I"⟩ : Cond) ∈ lw_g := List.mem_filter.mpr ⟨List.mem_of_getElem? (i := 40) (by decide +kernel), by decide +kernel⟩
theorem mw41 : (.selects "AppletFirewallModel" ⟨"AppletFirewallModel", "shared", "(III)I"⟩ ⟨"AppletFirewallModel", "shared", "(III)I"⟩ : Cond) ∈ lw_g := List.mem_filter.mpr ⟨List.mem_of_getElem? (i := 41) (by decide +kernel), by decide +kernel⟩
theorem mw43 : (.initialized "AppletFirewall" : Cond) ∈ lw_g := List.mem_filter.mpr ⟨List.mem_of_getElem? (i := 43) (by decide +kernel), by decide +kernel⟩
theorem mw44 : (.initialized "AppletFirewall$Memory" : Cond) ∈ lw_g := List.mem_filter.mpr ⟨List.mem_of_getElem? (i := 44) (by decide +kernel), by decide +kernel⟩
theorem mw45 : (.initialized "AppletFirewall$Input" : Cond) ∈ lw_g := List.mem_filter.mpr ⟨List.mem_of_getElem? (i := 45) (by decide +kernel), by decide +kernel⟩
theorem mw46 : (.initialized "AppletFirewallModel" : Cond) ∈ lw_g := List.mem_filter.mpr ⟨List.mem_of_getElem? (i := 46) (by decide +kernel), by decide +kernel⟩
theorem mw55 : (.methodLink "AppletFirewall" 1 ⟨"java/lang/Object", "<init>", "()V"⟩ : Cond) ∈ lw_g := List.mem_filter.mpr ⟨List.mem_of_getElem? (i := 55) (by decide +kernel), by decide +kernel⟩
theorem mw56 : (.instanceMethod ⟨"java/lang/Object", "<init>", "()V"⟩ : Cond) ∈ lw_g := List.mem_filter.mpr ⟨List.mem_of_getElem? (i := 56) (by decide +kernel), by decide +kernel⟩
theorem mw57 : (.code ⟨"java/lang/Object", "<init>", "()V"⟩ object_method_1_code 1 none : Cond) ∈ lw_g := List.mem_filter.mpr ⟨List.mem_of_getElem? (i := 57) (by decide +kernel), by decide +kernel⟩
theorem mw58 : (.classLink "AppletFirewall" 7 "AppletFirewall$Memory" : Cond) ∈ lw_g := List.mem_filter.mpr ⟨List.mem_of_getElem? (i := 58) (by decide +kernel), by decide +kernel⟩
theorem mw59 : (.instantiable "AppletFirewall$Memory" 4 : Cond) ∈ lw_g := List.mem_filter.mpr ⟨List.mem_of_getElem? (i := 59) (by decide +kernel), by decide +kernel⟩
theorem mw60 : (.methodLink "AppletFirewall" 9 ⟨"AppletFirewall$Memory", "<init>", "()V"⟩ : Cond) ∈ lw_g := List.mem_filter.mpr ⟨List.mem_of_getElem? (i := 60) (by decide +kernel), by decide +kernel⟩
theorem mw61 : (.instanceMethod ⟨"AppletFirewall$Memory", "<init>", "()V"⟩ : Cond) ∈ lw_g := List.mem_filter.mpr ⟨List.mem_of_getElem? (i := 61) (by decide +kernel), by decide +kernel⟩
theorem mw62 : (.code ⟨"AppletFirewall$Memory", "<init>", "()V"⟩ prog_5_method_1_code 2 none : Cond) ∈ lw_g := List.mem_filter.mpr ⟨List.mem_of_getElem? (i := 62) (by decide +kernel), by decide +kernel⟩
theorem mw63 : (.methodLink "AppletFirewall$Memory" 5 ⟨"java/lang/Object", "<init>", "()V"⟩ : Cond) ∈ lw_g := List.mem_filter.mpr ⟨List.mem_of_getElem? (i := 63) (by decide +kernel), by decide +kernel⟩
theorem mw64 : (.fieldLink "AppletFirewall$Memory" 11 "AppletFirewall$Memory" "cells" "[I" : Cond) ∈ lw_g := List.mem_filter.mpr ⟨List.mem_of_getElem? (i := 64) (by decide +kernel), by decide +kernel⟩
theorem mw65 : (.fieldLink "AppletFirewall$Memory" 19 "AppletFirewall$Memory" "written" "I" : Cond) ∈ lw_g := List.mem_filter.mpr ⟨List.mem_of_getElem? (i := 65) (by decide +kernel), by decide +kernel⟩
theorem mw66 : (.fieldLink "AppletFirewall$Memory" 22 "AppletFirewall$Memory" "failed" "I" : Cond) ∈ lw_g := List.mem_filter.mpr ⟨List.mem_of_getElem? (i := 66) (by decide +kernel), by decide +kernel⟩
theorem mw67 : (.fieldLink "AppletFirewall$Memory" 15 "AppletFirewall$Memory" "fuse" "I" : Cond) ∈ lw_g := List.mem_filter.mpr ⟨List.mem_of_getElem? (i := 67) (by decide +kernel), by decide +kernel⟩
theorem mw77 : (.arrayClass FieldType.int : Cond) ∈ lw_g := List.mem_filter.mpr ⟨List.mem_of_getElem? (i := 77) (by decide +kernel), by decide +kernel⟩
theorem mw78 : (.classLink "AppletFirewall" 16 "AppletFirewall$Input" : Cond) ∈ lw_g := List.mem_filter.mpr ⟨List.mem_of_getElem? (i := 78) (by decide +kernel), by decide +kernel⟩
theorem mw79 : (.instantiable "AppletFirewall$Input" 2 : Cond) ∈ lw_g := List.mem_filter.mpr ⟨List.mem_of_getElem? (i := 79) (by decide +kernel), by decide +kernel⟩
theorem mw80 : (.methodLink "AppletFirewall" 18 ⟨"AppletFirewall$Input", "<init>", "()V"⟩ : Cond) ∈ lw_g := List.mem_filter.mpr ⟨List.mem_of_getElem? (i := 80) (by decide +kernel), by decide +kernel⟩
theorem mw81 : (.instanceMethod ⟨"AppletFirewall$Input", "<init>", "()V"⟩ : Cond) ∈ lw_g := List.mem_filter.mpr ⟨List.mem_of_getElem? (i := 81) (by decide +kernel), by decide +kernel⟩
theorem mw82 : (.code ⟨"AppletFirewall$Input", "<init>", "()V"⟩ prog_3_method_1_code 1 none : Cond) ∈ lw_g := List.mem_filter.mpr ⟨List.mem_of_getElem? (i := 82) (by decide +kernel), by decide +kernel⟩
theorem mw83 : (.methodLink "AppletFirewall$Input" 1 ⟨"java/lang/Object", "<init>", "()V"⟩ : Cond) ∈ lw_g := List.mem_filter.mpr ⟨List.mem_of_getElem? (i := 83) (by decide +kernel), by decide +kernel⟩
theorem mw84 : (.fieldLink "AppletFirewall$Input" 9 "AppletFirewall$Input" "bytes" "[I" : Cond) ∈ lw_g := List.mem_filter.mpr ⟨List.mem_of_getElem? (i := 84) (by decide +kernel), by decide +kernel⟩
theorem mw85 : (.fieldLink "AppletFirewall$Input" 13 "AppletFirewall$Input" "count" "I" : Cond) ∈ lw_g := List.mem_filter.mpr ⟨List.mem_of_getElem? (i := 85) (by decide +kernel), by decide +kernel⟩
theorem mw91 : (.fieldLink "AppletFirewall" 10 "AppletFirewall" "memory" "LAppletFirewall$Memory;" : Cond) ∈ lw_g := List.mem_filter.mpr ⟨List.mem_of_getElem? (i := 91) (by decide +kernel), by decide +kernel⟩
theorem mw92 : (.fieldLink "AppletFirewall" 19 "AppletFirewall" "input" "LAppletFirewall$Input;" : Cond) ∈ lw_g := List.mem_filter.mpr ⟨List.mem_of_getElem? (i := 92) (by decide +kernel), by decide +kernel⟩
theorem mw93 : (.fieldLink "AppletFirewall" 23 "AppletFirewall" "answer" "[I" : Cond) ∈ lw_g := List.mem_filter.mpr ⟨List.mem_of_getElem? (i := 93) (by decide +kernel), by decide +kernel⟩
theorem mw94 : (.fieldLink "AppletFirewall" 27 "AppletFirewall" "grantRow" "[I" : Cond) ∈ lw_g := List.mem_filter.mpr ⟨List.mem_of_getElem? (i := 94) (by decide +kernel), by decide +kernel⟩
theorem mw95 : (.fieldLink "AppletFirewall" 42 "AppletFirewall" "answerLength" "I" : Cond) ∈ lw_g := List.mem_filter.mpr ⟨List.mem_of_getElem? (i := 95) (by decide +kernel), by decide +kernel⟩
theorem mw96 : (.fieldLink "AppletFirewall" 34 "AppletFirewall" "on" "Z" : Cond) ∈ lw_g := List.mem_filter.mpr ⟨List.mem_of_getElem? (i := 96) (by decide +kernel), by decide +kernel⟩
theorem mw97 : (.fieldLink "AppletFirewall" 30 "AppletFirewall" "selected" "I" : Cond) ∈ lw_g := List.mem_filter.mpr ⟨List.mem_of_getElem? (i := 97) (by decide +kernel), by decide +kernel⟩
theorem mw98 : (.fieldLink "AppletFirewall" 107 "AppletFirewall" "verified" "Z" : Cond) ∈ lw_g := List.mem_filter.mpr ⟨List.mem_of_getElem? (i := 98) (by decide +kernel), by decide +kernel⟩
theorem mw99 : (.fieldLink "AppletFirewall" 110 "AppletFirewall" "open" "Z" : Cond) ∈ lw_g := List.mem_filter.mpr ⟨List.mem_of_getElem? (i := 99) (by decide +kernel), by decide +kernel⟩
theorem mw123 : (.methodLink "AppletFirewall" 38 ⟨"AppletFirewall$Input", "append", "(JI)Z"⟩ : Cond) ∈ lw_g := List.mem_filter.mpr ⟨List.mem_of_getElem? (i := 123) (by decide +kernel), by decide +kernel⟩
theorem mw124 : (.instanceMethod ⟨"AppletFirewall$Input", "append", "(JI)Z"⟩ : Cond) ∈ lw_g := List.mem_filter.mpr ⟨List.mem_of_getElem? (i := 124) (by decide +kernel), by decide +kernel⟩
theorem mw125 : (.selects "AppletFirewall$Input" ⟨"AppletFirewall$Input", "append", "(JI)Z"⟩ ⟨"AppletFirewall$Input", "append", "(JI)Z"⟩ : Cond) ∈ lw_g := List.mem_filter.mpr ⟨List.mem_of_getElem? (i := 125) (by decide +kernel), by decide +kernel⟩
theorem mw126 : (.code ⟨"AppletFirewall$Input", "append", "(JI)Z"⟩ prog_3_method_2_code 5 (some FieldType.boolean) : Cond) ∈ lw_g := List.mem_filter.mpr ⟨List.mem_of_getElem? (i := 126) (by decide +kernel), by decide +kernel⟩
theorem mw150 : (.methodLink "AppletFirewall$Input" 17 ⟨"AppletFirewall$Input", "lc", "()I"⟩ : Cond) ∈ lw_g := List.mem_filter.mpr ⟨List.mem_of_getElem? (i := 150) (by decide +kernel), by decide +kernel⟩
theorem mw151 : (.instanceMethod ⟨"AppletFirewall$Input", "lc", "()I"⟩ : Cond) ∈ lw_g := List.mem_filter.mpr ⟨List.mem_of_getElem? (i := 151) (by decide +kernel), by decide +kernel⟩
theorem mw152 : (.selects "AppletFirewall$Input" ⟨"AppletFirewall$Input", "lc", "()I"⟩ ⟨"AppletFirewall$Input", "lc", "()I"⟩ : Cond) ∈ lw_g := List.mem_filter.mpr ⟨List.mem_of_getElem? (i := 152) (by decide +kernel), by decide +kernel⟩
theorem mw153 : (.code ⟨"AppletFirewall$Input", "lc", "()I"⟩ prog_3_method_10_code 1 (some FieldType.int) : Cond) ∈ lw_g := List.mem_filter.mpr ⟨List.mem_of_getElem? (i := 153) (by decide +kernel), by decide +kernel⟩
theorem mw159 : (.methodLink "AppletFirewall" 123 ⟨"AppletFirewall$Input", "lc", "()I"⟩ : Cond) ∈ lw_g := List.mem_filter.mpr ⟨List.mem_of_getElem? (i := 159) (by decide +kernel), by decide +kernel⟩
theorem mw164 : (.methodLink "AppletFirewall" 130 ⟨"AppletFirewall$Input", "p1", "()I"⟩ : Cond) ∈ lw_g := List.mem_filter.mpr ⟨List.mem_of_getElem? (i := 164) (by decide +kernel), by decide +kernel⟩
theorem mw165 : (.instanceMethod ⟨"AppletFirewall$Input", "p1", "()I"⟩ : Cond) ∈ lw_g := List.mem_filter.mpr ⟨List.mem_of_getElem? (i := 165) (by decide +kernel), by decide +kernel⟩
theorem mw166 : (.selects "AppletFirewall$Input" ⟨"AppletFirewall$Input", "p1", "()I"⟩ ⟨"AppletFirewall$Input", "p1", "()I"⟩ : Cond) ∈ lw_g := List.mem_filter.mpr ⟨List.mem_of_getElem? (i := 166) (by decide +kernel), by decide +kernel⟩
theorem mw167 : (.code ⟨"AppletFirewall$Input", "p1", "()I"⟩ prog_3_method_8_code 1 (some FieldType.int) : Cond) ∈ lw_g := List.mem_filter.mpr ⟨List.mem_of_getElem? (i := 167) (by decide +kernel), by decide +kernel⟩
theorem mw168 : (.methodLink "AppletFirewall" 133 ⟨"AppletFirewall$Input", "p2", "()I"⟩ : Cond) ∈ lw_g := List.mem_filter.mpr ⟨List.mem_of_getElem? (i := 168) (by decide +kernel), by decide +kernel⟩
theorem mw169 : (.instanceMethod ⟨"AppletFirewall$Input", "p2", "()I"⟩ : Cond) ∈ lw_g := List.mem_filter.mpr ⟨List.mem_of_getElem? (i := 169) (by decide +kernel), by decide +kernel⟩
theorem mw170 : (.selects "AppletFirewall$Input" ⟨"AppletFirewall$Input", "p2", "()I"⟩ ⟨"AppletFirewall$Input", "p2", "()I"⟩ : Cond) ∈ lw_g := List.mem_filter.mpr ⟨List.mem_of_getElem? (i := 170) (by decide +kernel), by decide +kernel⟩
theorem mw171 : (.code ⟨"AppletFirewall$Input", "p2", "()I"⟩ prog_3_method_9_code 1 (some FieldType.int) : Cond) ∈ lw_g := List.mem_filter.mpr ⟨List.mem_of_getElem? (i := 171) (by decide +kernel), by decide +kernel⟩
theorem mw182 : (.constant "AppletFirewall" 59 36864 : Cond) ∈ lw_g := List.mem_filter.mpr ⟨List.mem_of_getElem? (i := 182) (by decide +kernel), by decide +kernel⟩
theorem mw199 : (.methodLink "AppletFirewall" 192 ⟨"AppletFirewall$Input", "payload", "(I)I"⟩ : Cond) ∈ lw_g := List.mem_filter.mpr ⟨List.mem_of_getElem? (i := 199) (by decide +kernel), by decide +kernel⟩
theorem mw200 : (.instanceMethod ⟨"AppletFirewall$Input", "payload", "(I)I"⟩ : Cond) ∈ lw_g := List.mem_filter.mpr ⟨List.mem_of_getElem? (i := 200) (by decide +kernel), by decide +kernel⟩
theorem mw201 : (.selects "AppletFirewall$Input" ⟨"AppletFirewall$Input", "payload", "(I)I"⟩ ⟨"AppletFirewall$Input", "payload", "(I)I"⟩ : Cond) ∈ lw_g := List.mem_filter.mpr ⟨List.mem_of_getElem? (i := 201) (by decide +kernel), by decide +kernel⟩
theorem mw202 : (.code ⟨"AppletFirewall$Input", "payload", "(I)I"⟩ prog_3_method_12_code 2 (some FieldType.int) : Cond) ∈ lw_g := List.mem_filter.mpr ⟨List.mem_of_getElem? (i := 202) (by decide +kernel), by decide +kernel⟩
theorem mw203 : (.methodLink "AppletFirewall" 89 ⟨"AppletFirewall", "isApplet", "(I)Z"⟩ : Cond) ∈ lw_g := List.mem_filter.mpr ⟨List.mem_of_getElem? (i := 203) (by decide +kernel), by decide +kernel⟩
theorem mw204 : (.static ⟨"AppletFirewall", "isApplet", "(I)Z"⟩ : Cond) ∈ lw_g := List.mem_filter.mpr ⟨List.mem_of_getElem? (i := 204) (by decide +kernel), by decide +kernel⟩
theorem mw205 : (.code ⟨"AppletFirewall", "isApplet", "(I)Z"⟩ prog_1_method_39_code 1 (some FieldType.boolean) : Cond) ∈ lw_g := List.mem_filter.mpr ⟨List.mem_of_getElem? (i := 205) (by decide +kernel), by decide +kernel⟩
theorem mw206 : (.methodLink "AppletFirewall" 82 ⟨"AppletFirewall$Memory", "undo", "()Z"⟩ : Cond) ∈ lw_g := List.mem_filter.mpr ⟨List.mem_of_getElem? (i := 206) (by decide +kernel), by decide +kernel⟩
theorem mw207 : (.instanceMethod ⟨"AppletFirewall$Memory", "undo", "()Z"⟩ : Cond) ∈ lw_g := List.mem_filter.mpr ⟨List.mem_of_getElem? (i := 207) (by decide +kernel), by decide +kernel⟩
theorem mw208 : (.selects "AppletFirewall$Memory" ⟨"AppletFirewall$Memory", "undo", "()Z"⟩ ⟨"AppletFirewall$Memory", "undo", "()Z"⟩ : Cond) ∈ lw_g := List.mem_filter.mpr ⟨List.mem_of_getElem? (i := 208) (by decide +kernel), by decide +kernel⟩
theorem mw209 : (.code ⟨"AppletFirewall$Memory", "undo", "()Z"⟩ prog_5_method_9_code 3 (some FieldType.boolean) : Cond) ∈ lw_g := List.mem_filter.mpr ⟨List.mem_of_getElem? (i := 209) (by decide +kernel), by decide +kernel⟩
theorem mw210 : (.methodLink "AppletFirewall$Memory" 25 ⟨"AppletFirewall$Memory", "count", "()I"⟩ : Cond) ∈ lw_g := List.mem_filter.mpr ⟨List.mem_of_getElem? (i := 210) (by decide +kernel), by decide +kernel⟩
theorem mw211 : (.instanceMethod ⟨"AppletFirewall$Memory", "count", "()I"⟩ : Cond) ∈ lw_g := List.mem_filter.mpr ⟨List.mem_of_getElem? (i := 211) (by decide +kernel), by decide +kernel⟩
theorem mw212 : (.selects "AppletFirewall$Memory" ⟨"AppletFirewall$Memory", "count", "()I"⟩ ⟨"AppletFirewall$Memory", "count", "()I"⟩ : Cond) ∈ lw_g := List.mem_filter.mpr ⟨List.mem_of_getElem? (i := 212) (by decide +kernel), by decide +kernel⟩
theorem mw213 : (.code ⟨"AppletFirewall$Memory", "count", "()I"⟩ prog_5_method_3_code 1 (some FieldType.int) : Cond) ∈ lw_g := List.mem_filter.mpr ⟨List.mem_of_getElem? (i := 213) (by decide +kernel), by decide +kernel⟩
theorem mw214 : (.methodLink "AppletFirewall$Memory" 29 ⟨"AppletFirewall$Memory", "write", "(II)Z"⟩ : Cond) ∈ lw_g := List.mem_filter.mpr ⟨List.mem_of_getElem? (i := 214) (by decide +kernel), by decide +kernel⟩
theorem mw215 : (.instanceMethod ⟨"AppletFirewall$Memory", "write", "(II)Z"⟩ : Cond) ∈ lw_g := List.mem_filter.mpr ⟨List.mem_of_getElem? (i := 215) (by decide +kernel), by decide +kernel⟩
theorem mw216 : (.selects "AppletFirewall$Memory" ⟨"AppletFirewall$Memory", "write", "(II)Z"⟩ ⟨"AppletFirewall$Memory", "write", "(II)Z"⟩ : Cond) ∈ lw_g := List.mem_filter.mpr ⟨List.mem_of_getElem? (i := 216) (by decide +kernel), by decide +kernel⟩
theorem mw217 : (.code ⟨"AppletFirewall$Memory", "write", "(II)Z"⟩ prog_5_method_7_code 3 (some FieldType.boolean) : Cond) ∈ lw_g := List.mem_filter.mpr ⟨List.mem_of_getElem? (i := 217) (by decide +kernel), by decide +kernel⟩
theorem mw218 : (.methodLink "AppletFirewall$Memory" 33 ⟨"AppletFirewall$Memory", "settle", "()Z"⟩ : Cond) ∈ lw_g := List.mem_filter.mpr ⟨List.mem_of_getElem? (i := 218) (by decide +kernel), by decide +kernel⟩
theorem mw219 : (.instanceMethod ⟨"AppletFirewall$Memory", "settle", "()Z"⟩ : Cond) ∈ lw_g := List.mem_filter.mpr ⟨List.mem_of_getElem? (i := 219) (by decide +kernel), by decide +kernel⟩
theorem mw220 : (.selects "AppletFirewall$Memory" ⟨"AppletFirewall$Memory", "settle", "()Z"⟩ ⟨"AppletFirewall$Memory", "settle", "()Z"⟩ : Cond) ∈ lw_g := List.mem_filter.mpr ⟨List.mem_of_getElem? (i := 220) (by decide +kernel), by decide +kernel⟩
theorem mw221 : (.code ⟨"AppletFirewall$Memory", "settle", "()Z"⟩ prog_5_method_10_code 1 (some FieldType.boolean) : Cond) ∈ lw_g := List.mem_filter.mpr ⟨List.mem_of_getElem? (i := 221) (by decide +kernel), by decide +kernel⟩
theorem mw222 : (.methodLink "AppletFirewall" 101 ⟨"AppletFirewall", "triesPlace", "(I)I"⟩ : Cond) ∈ lw_g := List.mem_filter.mpr ⟨List.mem_of_getElem? (i := 222) (by decide +kernel), by decide +kernel⟩
theorem mw223 : (.static ⟨"AppletFirewall", "triesPlace", "(I)I"⟩ : Cond) ∈ lw_g := List.mem_filter.mpr ⟨List.mem_of_getElem? (i := 223) (by decide +kernel), by decide +kernel⟩
theorem mw224 : (.code ⟨"AppletFirewall", "triesPlace", "(I)I"⟩ prog_1_method_42_code 1 (some FieldType.int) : Cond) ∈ lw_g := List.mem_filter.mpr ⟨List.mem_of_getElem? (i := 224) (by decide +kernel), by decide +kernel⟩
theorem mw225 : (.methodLink "AppletFirewall" 195 ⟨"AppletFirewall", "respond", "(II)I"⟩ : Cond) ∈ lw_g := List.mem_filter.mpr ⟨List.mem_of_getElem? (i := 225) (by decide +kernel), by decide +kernel⟩
theorem mw227 : (.instanceMethod ⟨"AppletFirewall", "respond", "(II)I"⟩ : Cond) ∈ lw_g := List.mem_filter.mpr ⟨List.mem_of_getElem? (i := 227) (by decide +kernel), by decide +kernel⟩
theorem mw228 : (.code ⟨"AppletFirewall", "respond", "(II)I"⟩ prog_1_method_31_code 4 (some FieldType.int) : Cond) ∈ lw_g := List.mem_filter.mpr ⟨List.mem_of_getElem? (i := 228) (by decide +kernel), by decide +kernel⟩
theorem mw229 : (.methodLink "AppletFirewall" 97 ⟨"AppletFirewall$Memory", "at", "(I)I"⟩ : Cond) ∈ lw_g := List.mem_filter.mpr ⟨List.mem_of_getElem? (i := 229) (by decide +kernel), by decide +kernel⟩
theorem mw230 : (.instanceMethod ⟨"AppletFirewall$Memory", "at", "(I)I"⟩ : Cond) ∈ lw_g := List.mem_filter.mpr ⟨List.mem_of_getElem? (i := 230) (by decide +kernel), by decide +kernel⟩
theorem mw231 : (.selects "AppletFirewall$Memory" ⟨"AppletFirewall$Memory", "at", "(I)I"⟩ ⟨"AppletFirewall$Memory", "at", "(I)I"⟩ : Cond) ∈ lw_g := List.mem_filter.mpr ⟨List.mem_of_getElem? (i := 231) (by decide +kernel), by decide +kernel⟩
theorem mw232 : (.code ⟨"AppletFirewall$Memory", "at", "(I)I"⟩ prog_5_method_2_code 2 (some FieldType.int) : Cond) ∈ lw_g := List.mem_filter.mpr ⟨List.mem_of_getElem? (i := 232) (by decide +kernel), by decide +kernel⟩
theorem mw237 : (.methodLink "AppletFirewall" 198 ⟨"AppletFirewall$Memory", "write", "(II)Z"⟩ : Cond) ∈ lw_g := List.mem_filter.mpr ⟨List.mem_of_getElem? (i := 237) (by decide +kernel), by decide +kernel⟩
theorem mw238 : (.methodLink "AppletFirewall" 201 ⟨"AppletFirewall", "payloadIsSecret", "()Z"⟩ : Cond) ∈ lw_g := List.mem_filter.mpr ⟨List.mem_of_getElem? (i := 238) (by decide +kernel), by decide +kernel⟩
theorem mw240 : (.instanceMethod ⟨"AppletFirewall", "payloadIsSecret", "()Z"⟩ : Cond) ∈ lw_g := List.mem_filter.mpr ⟨List.mem_of_getElem? (i := 240) (by decide +kernel), by decide +kernel⟩
theorem mw241 : (.code ⟨"AppletFirewall", "payloadIsSecret", "()Z"⟩ prog_1_method_21_code 3 (some FieldType.boolean) : Cond) ∈ lw_g := List.mem_filter.mpr ⟨List.mem_of_getElem? (i := 241) (by decide +kernel), by decide +kernel⟩
theorem mw242 : (.methodLink "AppletFirewall" 159 ⟨"AppletFirewall", "secretPlace", "(I)I"⟩ : Cond) ∈ lw_g := List.mem_filter.mpr ⟨List.mem_of_getElem? (i := 242) (by decide +kernel), by decide +kernel⟩
theorem mw243 : (.static ⟨"AppletFirewall", "secretPlace", "(I)I"⟩ : Cond) ∈ lw_g := List.mem_filter.mpr ⟨List.mem_of_getElem? (i := 243) (by decide +kernel), by decide +kernel⟩
theorem mw244 : (.code ⟨"AppletFirewall", "secretPlace", "(I)I"⟩ prog_1_method_41_code 1 (some FieldType.int) : Cond) ∈ lw_g := List.mem_filter.mpr ⟨List.mem_of_getElem? (i := 244) (by decide +kernel), by decide +kernel⟩
theorem mw245 : (.methodLink "AppletFirewall" 162 ⟨"AppletFirewall", "storePayload", "(I)I"⟩ : Cond) ∈ lw_g := List.mem_filter.mpr ⟨List.mem_of_getElem? (i := 245) (by decide +kernel), by decide +kernel⟩
theorem mw247 : (.instanceMethod ⟨"AppletFirewall", "storePayload", "(I)I"⟩ : Cond) ∈ lw_g := List.mem_filter.mpr ⟨List.mem_of_getElem? (i := 247) (by decide +kernel), by decide +kernel⟩
theorem mw248 : (.code ⟨"AppletFirewall", "storePayload", "(I)I"⟩ prog_1_method_32_code 2 (some FieldType.int) : Cond) ∈ lw_g := List.mem_filter.mpr ⟨List.mem_of_getElem? (i := 248) (by decide +kernel), by decide +kernel⟩
theorem mw249 : (.methodLink "AppletFirewall" 230 ⟨"AppletFirewall$Input", "row", "()[I"⟩ : Cond) ∈ lw_g := List.mem_filter.mpr ⟨List.mem_of_getElem? (i := 249) (by decide +kernel), by decide +kernel⟩
theorem mw250 : (.instanceMethod ⟨"AppletFirewall$Input", "row", "()[I"⟩ : Cond) ∈ lw_g := List.mem_filter.mpr ⟨List.mem_of_getElem? (i := 250) (by decide +kernel), by decide +kernel⟩
theorem mw251 : (.selects "AppletFirewall$Input" ⟨"AppletFirewall$Input", "row", "()[I"⟩ ⟨"AppletFirewall$Input", "row", "()[I"⟩ : Cond) ∈ lw_g := List.mem_filter.mpr ⟨List.mem_of_getElem? (i := 251) (by decide +kernel), by decide +kernel⟩
theorem mw252 : (.code ⟨"AppletFirewall$Input", "row", "()[I"⟩ prog_3_method_13_code 1 (some (FieldType.array FieldType.int)) : Cond) ∈ lw_g := List.mem_filter.mpr ⟨List.mem_of_getElem? (i := 252) (by decide +kernel), by decide +kernel⟩
theorem mw253 : (.methodLink "AppletFirewall" 220 ⟨"AppletFirewall", "store", "(I[III)I"⟩ : Cond) ∈ lw_g := List.mem_filter.mpr ⟨List.mem_of_getElem? (i := 253) (by decide +kernel), by decide +kernel⟩
theorem mw255 : (.instanceMethod ⟨"AppletFirewall", "store", "(I[III)I"⟩ : Cond) ∈ lw_g := List.mem_filter.mpr ⟨List.mem_of_getElem? (i := 255) (by decide +kernel), by decide +kernel⟩
theorem mw256 : (.code ⟨"AppletFirewall", "store", "(I[III)I"⟩ prog_1_method_33_code 6 (some FieldType.int) : Cond) ∈ lw_g := List.mem_filter.mpr ⟨List.mem_of_getElem? (i := 256) (by decide +kernel), by decide +kernel⟩
theorem mw257 : (.methodLink "AppletFirewall" 79 ⟨"AppletFirewall$Memory", "count", "()I"⟩ : Cond) ∈ lw_g := List.mem_filter.mpr ⟨List.mem_of_getElem? (i := 257) (by decide +kernel), by decide +kernel⟩
theorem mw258 : (.methodLink "AppletFirewall" 234 ⟨"AppletFirewall$Memory", "change", "(II)Z"⟩ : Cond) ∈ lw_g := List.mem_filter.mpr ⟨List.mem_of_getElem? (i := 258) (by decide +kernel), by decide +kernel⟩
theorem mw259 : (.instanceMethod ⟨"AppletFirewall$Memory", "change", "(II)Z"⟩ : Cond) ∈ lw_g := List.mem_filter.mpr ⟨List.mem_of_getElem? (i := 259) (by decide +kernel), by decide +kernel⟩
theorem mw260 : (.selects "AppletFirewall$Memory" ⟨"AppletFirewall$Memory", "change", "(II)Z"⟩ ⟨"AppletFirewall$Memory", "change", "(II)Z"⟩ : Cond) ∈ lw_g := List.mem_filter.mpr ⟨List.mem_of_getElem? (i := 260) (by decide +kernel), by decide +kernel⟩
theorem mw261 : (.code ⟨"AppletFirewall$Memory", "change", "(II)Z"⟩ prog_5_method_8_code 4 (some FieldType.boolean) : Cond) ∈ lw_g := List.mem_filter.mpr ⟨List.mem_of_getElem? (i := 261) (by decide +kernel), by decide +kernel⟩
theorem mw262 : (.methodLink "AppletFirewall" 211 ⟨"AppletFirewall$Memory", "settle", "()Z"⟩ : Cond) ∈ lw_g := List.mem_filter.mpr ⟨List.mem_of_getElem? (i := 262) (by decide +kernel), by decide +kernel⟩
theorem mw263 : (.methodLink "AppletFirewall" 204 ⟨"AppletFirewall", "doneIf", "(Z)I"⟩ : Cond) ∈ lw_g := List.mem_filter.mpr ⟨List.mem_of_getElem? (i := 263) (by decide +kernel), by decide +kernel⟩
theorem mw264 : (.static ⟨"AppletFirewall", "doneIf", "(Z)I"⟩ : Cond) ∈ lw_g := List.mem_filter.mpr ⟨List.mem_of_getElem? (i := 264) (by decide +kernel), by decide +kernel⟩
theorem mw265 : (.code ⟨"AppletFirewall", "doneIf", "(Z)I"⟩ prog_1_method_34_code 1 (some FieldType.int) : Cond) ∈ lw_g := List.mem_filter.mpr ⟨List.mem_of_getElem? (i := 265) (by decide +kernel), by decide +kernel⟩
theorem mw274 : (.methodLink "AppletFirewall" 208 ⟨"AppletFirewall$Input", "le", "()I"⟩ : Cond) ∈ lw_g := List.mem_filter.mpr ⟨List.mem_of_getElem? (i := 274) (by decide +kernel), by decide +kernel⟩
theorem mw275 : (.instanceMethod ⟨"AppletFirewall$Input", "le", "()I"⟩ : Cond) ∈ lw_g := List.mem_filter.mpr ⟨List.mem_of_getElem? (i := 275) (by decide +kernel), by decide +kernel⟩
theorem mw276 : (.selects "AppletFirewall$Input" ⟨"AppletFirewall$Input", "le", "()I"⟩ ⟨"AppletFirewall$Input", "le", "()I"⟩ : Cond) ∈ lw_g := List.mem_filter.mpr ⟨List.mem_of_getElem? (i := 276) (by decide +kernel), by decide +kernel⟩
theorem mw277 : (.code ⟨"AppletFirewall$Input", "le", "()I"⟩ prog_3_method_11_code 1 (some FieldType.int) : Cond) ∈ lw_g := List.mem_filter.mpr ⟨List.mem_of_getElem? (i := 277) (by decide +kernel), by decide +kernel⟩
theorem mw278 : (.methodLink "AppletFirewall" 93 ⟨"AppletFirewall", "dataPlace", "(II)I"⟩ : Cond) ∈ lw_g := List.mem_filter.mpr ⟨List.mem_of_getElem? (i := 278) (by decide +kernel), by decide +kernel⟩
theorem mw279 : (.static ⟨"AppletFirewall", "dataPlace", "(II)I"⟩ : Cond) ∈ lw_g := List.mem_filter.mpr ⟨List.mem_of_getElem? (i := 279) (by decide +kernel), by decide +kernel⟩
theorem mw280 : (.code ⟨"AppletFirewall", "dataPlace", "(II)I"⟩ prog_1_method_40_code 2 (some FieldType.int) : Cond) ∈ lw_g := List.mem_filter.mpr ⟨List.mem_of_getElem? (i := 280) (by decide +kernel), by decide +kernel⟩
theorem mw297 : (.methodLink "AppletFirewall" 214 ⟨"AppletFirewall", "ownerOf", "(I)I"⟩ : Cond) ∈ lw_g := List.mem_filter.mpr ⟨List.mem_of_getElem? (i := 297) (by decide +kernel), by decide +kernel⟩
theorem mw299 : (.instanceMethod ⟨"AppletFirewall", "ownerOf", "(I)I"⟩ : Cond) ∈ lw_g := List.mem_filter.mpr ⟨List.mem_of_getElem? (i := 299) (by decide +kernel), by decide +kernel⟩
theorem mw300 : (.code ⟨"AppletFirewall", "ownerOf", "(I)I"⟩ prog_1_method_35_code 3 (some FieldType.int) : Cond) ∈ lw_g := List.mem_filter.mpr ⟨List.mem_of_getElem? (i := 300) (by decide +kernel), by decide +kernel⟩
theorem mw301 : (.methodLink "AppletFirewall" 104 ⟨"AppletFirewall", "shareByte", "(II)I"⟩ : Cond) ∈ lw_g := List.mem_filter.mpr ⟨List.mem_of_getElem? (i := 301) (by decide +kernel), by decide +kernel⟩
theorem mw303 : (.instanceMethod ⟨"AppletFirewall", "shareByte", "(II)I"⟩ : Cond) ∈ lw_g := List.mem_filter.mpr ⟨List.mem_of_getElem? (i := 303) (by decide +kernel), by decide +kernel⟩
theorem mw304 : (.code ⟨"AppletFirewall", "shareByte", "(II)I"⟩ prog_1_method_37_code 3 (some FieldType.int) : Cond) ∈ lw_g := List.mem_filter.mpr ⟨List.mem_of_getElem? (i := 304) (by decide +kernel), by decide +kernel⟩
theorem mw305 : (.methodLink "AppletFirewall" 217 ⟨"AppletFirewall", "sharePlace", "(I)I"⟩ : Cond) ∈ lw_g := List.mem_filter.mpr ⟨List.mem_of_getElem? (i := 305) (by decide +kernel), by decide +kernel⟩
theorem mw306 : (.static ⟨"AppletFirewall", "sharePlace", "(I)I"⟩ : Cond) ∈ lw_g := List.mem_filter.mpr ⟨List.mem_of_getElem? (i := 306) (by decide +kernel), by decide +kernel⟩
theorem mw307 : (.code ⟨"AppletFirewall", "sharePlace", "(I)I"⟩ prog_1_method_43_code 1 (some FieldType.int) : Cond) ∈ lw_g := List.mem_filter.mpr ⟨List.mem_of_getElem? (i := 307) (by decide +kernel), by decide +kernel⟩
theorem mw316 : (.methodLink "AppletFirewall" 224 ⟨"AppletFirewall", "clientOf", "(I)I"⟩ : Cond) ∈ lw_g := List.mem_filter.mpr ⟨List.mem_of_getElem? (i := 316) (by decide +kernel), by decide +kernel⟩
theorem mw318 : (.instanceMethod ⟨"AppletFirewall", "clientOf", "(I)I"⟩ : Cond) ∈ lw_g := List.mem_filter.mpr ⟨List.mem_of_getElem? (i := 318) (by decide +kernel), by decide +kernel⟩
theorem mw319 : (.code ⟨"AppletFirewall", "clientOf", "(I)I"⟩ prog_1_method_36_code 3 (some FieldType.int) : Cond) ∈ lw_g := List.mem_filter.mpr ⟨List.mem_of_getElem? (i := 319) (by decide +kernel), by decide +kernel⟩
theorem mw320 : (.methodLink "AppletFirewall" 227 ⟨"AppletFirewall", "sharedPlace", "(II)I"⟩ : Cond) ∈ lw_g := List.mem_filter.mpr ⟨List.mem_of_getElem? (i := 320) (by decide +kernel), by decide +kernel⟩
theorem mw322 : (.instanceMethod ⟨"AppletFirewall", "sharedPlace", "(II)I"⟩ : Cond) ∈ lw_g := List.mem_filter.mpr ⟨List.mem_of_getElem? (i := 322) (by decide +kernel), by decide +kernel⟩
theorem mw323 : (.code ⟨"AppletFirewall", "sharedPlace", "(II)I"⟩ prog_1_method_38_code 3 (some FieldType.int) : Cond) ∈ lw_g := List.mem_filter.mpr ⟨List.mem_of_getElem? (i := 323) (by decide +kernel), by decide +kernel⟩
theorem mw328 : (.methodLink "AppletFirewall" 63 ⟨"AppletFirewall$Input", "clear", "()V"⟩ : Cond) ∈ lw_g := List.mem_filter.mpr ⟨List.mem_of_getElem? (i := 328) (by decide +kernel), by decide +kernel⟩
theorem mw329 : (.instanceMethod ⟨"AppletFirewall$Input", "clear", "()V"⟩ : Cond) ∈ lw_g := List.mem_filter.mpr ⟨List.mem_of_getElem? (i := 329) (by decide +kernel), by decide +kernel⟩
theorem mw330 : (.selects "AppletFirewall$Input" ⟨"AppletFirewall$Input", "clear", "()V"⟩ ⟨"AppletFirewall$Input", "clear", "()V"⟩ : Cond) ∈ lw_g := List.mem_filter.mpr ⟨List.mem_of_getElem? (i := 330) (by decide +kernel), by decide +kernel⟩
theorem mw331 : (.code ⟨"AppletFirewall$Input", "clear", "()V"⟩ prog_3_method_3_code 1 none : Cond) ∈ lw_g := List.mem_filter.mpr ⟨List.mem_of_getElem? (i := 331) (by decide +kernel), by decide +kernel⟩
theorem mw332 : (.methodLink "AppletFirewall" 66 ⟨"AppletFirewall", "switchOff", "()V"⟩ : Cond) ∈ lw_g := List.mem_filter.mpr ⟨List.mem_of_getElem? (i := 332) (by decide +kernel), by decide +kernel⟩
theorem mw334 : (.instanceMethod ⟨"AppletFirewall", "switchOff", "()V"⟩ : Cond) ∈ lw_g := List.mem_filter.mpr ⟨List.mem_of_getElem? (i := 334) (by decide +kernel), by decide +kernel⟩
theorem mw335 : (.code ⟨"AppletFirewall", "switchOff", "()V"⟩ prog_1_method_16_code 1 none : Cond) ∈ lw_g := List.mem_filter.mpr ⟨List.mem_of_getElem? (i := 335) (by decide +kernel), by decide +kernel⟩
theorem mw340 : (.methodLink "AppletFirewall" 69 ⟨"AppletFirewall$Input", "size", "()I"⟩ : Cond) ∈ lw_g := List.mem_filter.mpr ⟨List.mem_of_getElem? (i := 340) (by decide +kernel), by decide +kernel⟩
theorem mw341 : (.instanceMethod ⟨"AppletFirewall$Input", "size", "()I"⟩ : Cond) ∈ lw_g := List.mem_filter.mpr ⟨List.mem_of_getElem? (i := 341) (by decide +kernel), by decide +kernel⟩
theorem mw342 : (.selects "AppletFirewall$Input" ⟨"AppletFirewall$Input", "size", "()I"⟩ ⟨"AppletFirewall$Input", "size", "()I"⟩ : Cond) ∈ lw_g := List.mem_filter.mpr ⟨List.mem_of_getElem? (i := 342) (by decide +kernel), by decide +kernel⟩
theorem mw343 : (.code ⟨"AppletFirewall$Input", "size", "()I"⟩ prog_3_method_4_code 1 (some FieldType.int) : Cond) ∈ lw_g := List.mem_filter.mpr ⟨List.mem_of_getElem? (i := 343) (by decide +kernel), by decide +kernel⟩
theorem mw356 : (.methodLink "AppletFirewall" 72 ⟨"AppletFirewall$Memory", "failed", "()I"⟩ : Cond) ∈ lw_g := List.mem_filter.mpr ⟨List.mem_of_getElem? (i := 356) (by decide +kernel), by decide +kernel⟩
theorem mw357 : (.instanceMethod ⟨"AppletFirewall$Memory", "failed", "()I"⟩ : Cond) ∈ lw_g := List.mem_filter.mpr ⟨List.mem_of_getElem? (i := 357) (by decide +kernel), by decide +kernel⟩
theorem mw358 : (.selects "AppletFirewall$Memory" ⟨"AppletFirewall$Memory", "failed", "()I"⟩ ⟨"AppletFirewall$Memory", "failed", "()I"⟩ : Cond) ∈ lw_g := List.mem_filter.mpr ⟨List.mem_of_getElem? (i := 358) (by decide +kernel), by decide +kernel⟩
theorem mw359 : (.code ⟨"AppletFirewall$Memory", "failed", "()I"⟩ prog_5_method_5_code 1 (some FieldType.int) : Cond) ∈ lw_g := List.mem_filter.mpr ⟨List.mem_of_getElem? (i := 359) (by decide +kernel), by decide +kernel⟩
theorem mw360 : (.methodLink "AppletFirewall" 75 ⟨"AppletFirewall$Memory", "arm", "(I)V"⟩ : Cond) ∈ lw_g := List.mem_filter.mpr ⟨List.mem_of_getElem? (i := 360) (by decide +kernel), by decide +kernel⟩
theorem mw361 : (.instanceMethod ⟨"AppletFirewall$Memory", "arm", "(I)V"⟩ : Cond) ∈ lw_g := List.mem_filter.mpr ⟨List.mem_of_getElem? (i := 361) (by decide +kernel), by decide +kernel⟩
theorem mw362 : (.selects "AppletFirewall$Memory" ⟨"AppletFirewall$Memory", "arm", "(I)V"⟩ ⟨"AppletFirewall$Memory", "arm", "(I)V"⟩ : Cond) ∈ lw_g := List.mem_filter.mpr ⟨List.mem_of_getElem? (i := 362) (by decide +kernel), by decide +kernel⟩
theorem mw363 : (.code ⟨"AppletFirewall$Memory", "arm", "(I)V"⟩ prog_5_method_6_code 2 none : Cond) ∈ lw_g := List.mem_filter.mpr ⟨List.mem_of_getElem? (i := 363) (by decide +kernel), by decide +kernel⟩
theorem mw372 : (.methodLink "AppletFirewall" 86 ⟨"AppletFirewall$Memory", "written", "()I"⟩ : Cond) ∈ lw_g := List.mem_filter.mpr ⟨List.mem_of_getElem? (i := 372) (by decide +kernel), by decide +kernel⟩
theorem mw373 : (.instanceMethod ⟨"AppletFirewall$Memory", "written", "()I"⟩ : Cond) ∈ lw_g := List.mem_filter.mpr ⟨List.mem_of_getElem? (i := 373) (by decide +kernel), by decide +kernel⟩
theorem mw374 : (.selects "AppletFirewall$Memory" ⟨"AppletFirewall$Memory", "written", "()I"⟩ ⟨"AppletFirewall$Memory", "written", "()I"⟩ : Cond) ∈ lw_g := List.mem_filter.mpr ⟨List.mem_of_getElem? (i := 374) (by decide +kernel), by decide +kernel⟩
theorem mw375 : (.code ⟨"AppletFirewall$Memory", "written", "()I"⟩ prog_5_method_4_code 1 (some FieldType.int) : Cond) ∈ lw_g := List.mem_filter.mpr ⟨List.mem_of_getElem? (i := 375) (by decide +kernel), by decide +kernel⟩
theorem mw405 : (.methodLink "AppletFirewallModel" 1 ⟨"java/lang/Object", "<init>", "()V"⟩ : Cond) ∈ lw_g := List.mem_filter.mpr ⟨List.mem_of_getElem? (i := 405) (by decide +kernel), by decide +kernel⟩
theorem mw406 : (.fieldLink "AppletFirewallModel" 7 "AppletFirewallModel" "memory" "[I" : Cond) ∈ lw_g := List.mem_filter.mpr ⟨List.mem_of_getElem? (i := 406) (by decide +kernel), by decide +kernel⟩
theorem mw407 : (.fieldLink "AppletFirewallModel" 13 "AppletFirewallModel" "before" "[I" : Cond) ∈ lw_g := List.mem_filter.mpr ⟨List.mem_of_getElem? (i := 407) (by decide +kernel), by decide +kernel⟩
theorem mw408 : (.fieldLink "AppletFirewallModel" 16 "AppletFirewallModel" "left" "[I" : Cond) ∈ lw_g := List.mem_filter.mpr ⟨List.mem_of_getElem? (i := 408) (by decide +kernel), by decide +kernel⟩
theorem mw409 : (.fieldLink "AppletFirewallModel" 64 "AppletFirewallModel" "count" "I" : Cond) ∈ lw_g := List.mem_filter.mpr ⟨List.mem_of_getElem? (i := 409) (by decide +kernel), by decide +kernel⟩
theorem mw410 : (.fieldLink "AppletFirewallModel" 57 "AppletFirewallModel" "done" "I" : Cond) ∈ lw_g := List.mem_filter.mpr ⟨List.mem_of_getElem? (i := 410) (by decide +kernel), by decide +kernel⟩
theorem mw411 : (.fieldLink "AppletFirewallModel" 51 "AppletFirewallModel" "failed" "I" : Cond) ∈ lw_g := List.mem_filter.mpr ⟨List.mem_of_getElem? (i := 411) (by decide +kernel), by decide +kernel⟩
theorem mw412 : (.fieldLink "AppletFirewallModel" 45 "AppletFirewallModel" "armed" "Z" : Cond) ∈ lw_g := List.mem_filter.mpr ⟨List.mem_of_getElem? (i := 412) (by decide +kernel), by decide +kernel⟩
theorem mw413 : (.fieldLink "AppletFirewallModel" 48 "AppletFirewallModel" "fuse" "I" : Cond) ∈ lw_g := List.mem_filter.mpr ⟨List.mem_of_getElem? (i := 413) (by decide +kernel), by decide +kernel⟩
theorem mw414 : (.fieldLink "AppletFirewallModel" 19 "AppletFirewallModel" "on" "Z" : Cond) ∈ lw_g := List.mem_filter.mpr ⟨List.mem_of_getElem? (i := 414) (by decide +kernel), by decide +kernel⟩
theorem mw415 : (.fieldLink "AppletFirewallModel" 23 "AppletFirewallModel" "selected" "I" : Cond) ∈ lw_g := List.mem_filter.mpr ⟨List.mem_of_getElem? (i := 415) (by decide +kernel), by decide +kernel⟩
theorem mw416 : (.fieldLink "AppletFirewallModel" 33 "AppletFirewallModel" "verified" "Z" : Cond) ∈ lw_g := List.mem_filter.mpr ⟨List.mem_of_getElem? (i := 416) (by decide +kernel), by decide +kernel⟩
theorem mw417 : (.fieldLink "AppletFirewallModel" 36 "AppletFirewallModel" "open" "Z" : Cond) ∈ lw_g := List.mem_filter.mpr ⟨List.mem_of_getElem? (i := 417) (by decide +kernel), by decide +kernel⟩
theorem mw418 : (.fieldLink "AppletFirewallModel" 27 "AppletFirewallModel" "in" "[I" : Cond) ∈ lw_g := List.mem_filter.mpr ⟨List.mem_of_getElem? (i := 418) (by decide +kernel), by decide +kernel⟩
theorem mw419 : (.fieldLink "AppletFirewallModel" 39 "AppletFirewallModel" "size" "I" : Cond) ∈ lw_g := List.mem_filter.mpr ⟨List.mem_of_getElem? (i := 419) (by decide +kernel), by decide +kernel⟩
theorem mw420 : (.fieldLink "AppletFirewallModel" 30 "AppletFirewallModel" "out" "[I" : Cond) ∈ lw_g := List.mem_filter.mpr ⟨List.mem_of_getElem? (i := 420) (by decide +kernel), by decide +kernel⟩
theorem mw421 : (.fieldLink "AppletFirewallModel" 42 "AppletFirewallModel" "told" "I" : Cond) ∈ lw_g := List.mem_filter.mpr ⟨List.mem_of_getElem? (i := 421) (by decide +kernel), by decide +kernel⟩
theorem mw463 : (.methodLink "AppletFirewallModel" 54 ⟨"AppletFirewallModel", "forget", "()V"⟩ : Cond) ∈ lw_g := List.mem_filter.mpr ⟨List.mem_of_getElem? (i := 463) (by decide +kernel), by decide +kernel⟩
theorem mw465 : (.instanceMethod ⟨"AppletFirewallModel", "forget", "()V"⟩ : Cond) ∈ lw_g := List.mem_filter.mpr ⟨List.mem_of_getElem? (i := 465) (by decide +kernel), by decide +kernel⟩
theorem mw466 : (.code ⟨"AppletFirewallModel", "forget", "()V"⟩ prog_7_method_2_code 1 none : Cond) ∈ lw_g := List.mem_filter.mpr ⟨List.mem_of_getElem? (i := 466) (by decide +kernel), by decide +kernel⟩
theorem mw467 : (.methodLink "AppletFirewallModel" 71 ⟨"AppletFirewallModel", "undo", "()Z"⟩ : Cond) ∈ lw_g := List.mem_filter.mpr ⟨List.mem_of_getElem? (i := 467) (by decide +kernel), by decide +kernel⟩
theorem mw469 : (.instanceMethod ⟨"AppletFirewallModel", "undo", "()Z"⟩ : Cond) ∈ lw_g := List.mem_filter.mpr ⟨List.mem_of_getElem? (i := 469) (by decide +kernel), by decide +kernel⟩
theorem mw470 : (.code ⟨"AppletFirewallModel", "undo", "()Z"⟩ prog_7_method_7_code 2 (some FieldType.boolean) : Cond) ∈ lw_g := List.mem_filter.mpr ⟨List.mem_of_getElem? (i := 470) (by decide +kernel), by decide +kernel⟩
theorem mw471 : (.methodLink "AppletFirewallModel" 67 ⟨"AppletFirewallModel", "several", "(I)Z"⟩ : Cond) ∈ lw_g := List.mem_filter.mpr ⟨List.mem_of_getElem? (i := 471) (by decide +kernel), by decide +kernel⟩
theorem mw473 : (.instanceMethod ⟨"AppletFirewallModel", "several", "(I)Z"⟩ : Cond) ∈ lw_g := List.mem_filter.mpr ⟨List.mem_of_getElem? (i := 473) (by decide +kernel), by decide +kernel⟩
theorem mw474 : (.code ⟨"AppletFirewallModel", "several", "(I)Z"⟩ prog_7_method_4_code 3 (some FieldType.boolean) : Cond) ∈ lw_g := List.mem_filter.mpr ⟨List.mem_of_getElem? (i := 474) (by decide +kernel), by decide +kernel⟩
theorem mw475 : (.methodLink "AppletFirewallModel" 60 ⟨"AppletFirewallModel", "write", "()Z"⟩ : Cond) ∈ lw_g := List.mem_filter.mpr ⟨List.mem_of_getElem? (i := 475) (by decide +kernel), by decide +kernel⟩
theorem mw477 : (.instanceMethod ⟨"AppletFirewallModel", "write", "()Z"⟩ : Cond) ∈ lw_g := List.mem_filter.mpr ⟨List.mem_of_getElem? (i := 477) (by decide +kernel), by decide +kernel⟩
theorem mw478 : (.code ⟨"AppletFirewallModel", "write", "()Z"⟩ prog_7_method_3_code 1 (some FieldType.boolean) : Cond) ∈ lw_g := List.mem_filter.mpr ⟨List.mem_of_getElem? (i := 478) (by decide +kernel), by decide +kernel⟩
theorem mw483 : (.constantLong "AppletFirewallModel" 74 255 : Cond) ∈ lw_g := List.mem_filter.mpr ⟨List.mem_of_getElem? (i := 483) (by decide +kernel), by decide +kernel⟩
theorem mw488 : (.methodLink "AppletFirewallModel" 96 ⟨"AppletFirewallModel", "refuse", "()I"⟩ : Cond) ∈ lw_g := List.mem_filter.mpr ⟨List.mem_of_getElem? (i := 488) (by decide +kernel), by decide +kernel⟩
theorem mw490 : (.instanceMethod ⟨"AppletFirewallModel", "refuse", "()I"⟩ : Cond) ∈ lw_g := List.mem_filter.mpr ⟨List.mem_of_getElem? (i := 490) (by decide +kernel), by decide +kernel⟩
theorem mw491 : (.code ⟨"AppletFirewallModel", "refuse", "()I"⟩ prog_7_method_17_code 3 (some FieldType.int) : Cond) ∈ lw_g := List.mem_filter.mpr ⟨List.mem_of_getElem? (i := 491) (by decide +kernel), by decide +kernel⟩
theorem mw492 : (.methodLink "AppletFirewallModel" 79 ⟨"AppletFirewallModel", "shape", "()I"⟩ : Cond) ∈ lw_g := List.mem_filter.mpr ⟨List.mem_of_getElem? (i := 492) (by decide +kernel), by decide +kernel⟩
theorem mw494 : (.instanceMethod ⟨"AppletFirewallModel", "shape", "()I"⟩ : Cond) ∈ lw_g := List.mem_filter.mpr ⟨List.mem_of_getElem? (i := 494) (by decide +kernel), by decide +kernel⟩
theorem mw495 : (.code ⟨"AppletFirewallModel", "shape", "()I"⟩ prog_7_method_11_code 2 (some FieldType.int) : Cond) ∈ lw_g := List.mem_filter.mpr ⟨List.mem_of_getElem? (i := 495) (by decide +kernel), by decide +kernel⟩
theorem mw496 : (.methodLink "AppletFirewallModel" 83 ⟨"AppletFirewallModel", "known", "(I)Z"⟩ : Cond) ∈ lw_g := List.mem_filter.mpr ⟨List.mem_of_getElem? (i := 496) (by decide +kernel), by decide +kernel⟩
theorem mw497 : (.static ⟨"AppletFirewallModel", "known", "(I)Z"⟩ : Cond) ∈ lw_g := List.mem_filter.mpr ⟨List.mem_of_getElem? (i := 497) (by decide +kernel), by decide +kernel⟩
theorem mw498 : (.code ⟨"AppletFirewallModel", "known", "(I)Z"⟩ prog_7_method_13_code 1 (some FieldType.boolean) : Cond) ∈ lw_g := List.mem_filter.mpr ⟨List.mem_of_getElem? (i := 498) (by decide +kernel), by decide +kernel⟩
theorem mw499 : (.methodLink "AppletFirewallModel" 76 ⟨"AppletFirewallModel", "starred", "(I)Z"⟩ : Cond) ∈ lw_g := List.mem_filter.mpr ⟨List.mem_of_getElem? (i := 499) (by decide +kernel), by decide +kernel⟩
theorem mw500 : (.static ⟨"AppletFirewallModel", "starred", "(I)Z"⟩ : Cond) ∈ lw_g := List.mem_filter.mpr ⟨List.mem_of_getElem? (i := 500) (by decide +kernel), by decide +kernel⟩
theorem mw501 : (.code ⟨"AppletFirewallModel", "starred", "(I)Z"⟩ prog_7_method_12_code 1 (some FieldType.boolean) : Cond) ∈ lw_g := List.mem_filter.mpr ⟨List.mem_of_getElem? (i := 501) (by decide +kernel), by decide +kernel⟩
theorem mw502 : (.methodLink "AppletFirewallModel" 86 ⟨"AppletFirewallModel", "shapeOf", "(I)I"⟩ : Cond) ∈ lw_g := List.mem_filter.mpr ⟨List.mem_of_getElem? (i := 502) (by decide +kernel), by decide +kernel⟩
theorem mw503 : (.static ⟨"AppletFirewallModel", "shapeOf", "(I)I"⟩ : Cond) ∈ lw_g := List.mem_filter.mpr ⟨List.mem_of_getElem? (i := 503) (by decide +kernel), by decide +kernel⟩
theorem mw504 : (.code ⟨"AppletFirewallModel", "shapeOf", "(I)I"⟩ prog_7_method_14_code 1 (some FieldType.int) : Cond) ∈ lw_g := List.mem_filter.mpr ⟨List.mem_of_getElem? (i := 504) (by decide +kernel), by decide +kernel⟩
theorem mw505 : (.methodLink "AppletFirewallModel" 90 ⟨"AppletFirewallModel", "lengthWrong", "(I)Z"⟩ : Cond) ∈ lw_g := List.mem_filter.mpr ⟨List.mem_of_getElem? (i := 505) (by decide +kernel), by decide +kernel⟩
theorem mw507 : (.instanceMethod ⟨"AppletFirewallModel", "lengthWrong", "(I)Z"⟩ : Cond) ∈ lw_g := List.mem_filter.mpr ⟨List.mem_of_getElem? (i := 507) (by decide +kernel), by decide +kernel⟩
theorem mw508 : (.code ⟨"AppletFirewallModel", "lengthWrong", "(I)Z"⟩ prog_7_method_15_code 3 (some FieldType.boolean) : Cond) ∈ lw_g := List.mem_filter.mpr ⟨List.mem_of_getElem? (i := 508) (by decide +kernel), by decide +kernel⟩
theorem mw509 : (.methodLink "AppletFirewallModel" 93 ⟨"AppletFirewallModel", "placesWrong", "(I)Z"⟩ : Cond) ∈ lw_g := List.mem_filter.mpr ⟨List.mem_of_getElem? (i := 509) (by decide +kernel), by decide +kernel⟩
theorem mw511 : (.instanceMethod ⟨"AppletFirewallModel", "placesWrong", "(I)Z"⟩ : Cond) ∈ lw_g := List.mem_filter.mpr ⟨List.mem_of_getElem? (i := 511) (by decide +kernel), by decide +kernel⟩
theorem mw512 : (.code ⟨"AppletFirewallModel", "placesWrong", "(I)Z"⟩ prog_7_method_16_code 4 (some FieldType.boolean) : Cond) ∈ lw_g := List.mem_filter.mpr ⟨List.mem_of_getElem? (i := 512) (by decide +kernel), by decide +kernel⟩
theorem mw513 : (.methodLink "AppletFirewallModel" 99 ⟨"AppletFirewallModel", "carry", "(III)I"⟩ : Cond) ∈ lw_g := List.mem_filter.mpr ⟨List.mem_of_getElem? (i := 513) (by decide +kernel), by decide +kernel⟩
theorem mw515 : (.instanceMethod ⟨"AppletFirewallModel", "carry", "(III)I"⟩ : Cond) ∈ lw_g := List.mem_filter.mpr ⟨List.mem_of_getElem? (i := 515) (by decide +kernel), by decide +kernel⟩
theorem mw516 : (.code ⟨"AppletFirewallModel", "carry", "(III)I"⟩ prog_7_method_19_code 4 (some FieldType.int) : Cond) ∈ lw_g := List.mem_filter.mpr ⟨List.mem_of_getElem? (i := 516) (by decide +kernel), by decide +kernel⟩
theorem mw517 : (.methodLink "AppletFirewallModel" 104 ⟨"AppletFirewallModel", "select", "(I)I"⟩ : Cond) ∈ lw_g := List.mem_filter.mpr ⟨List.mem_of_getElem? (i := 517) (by decide +kernel), by decide +kernel⟩
theorem mw519 : (.instanceMethod ⟨"AppletFirewallModel", "select", "(I)I"⟩ : Cond) ∈ lw_g := List.mem_filter.mpr ⟨List.mem_of_getElem? (i := 519) (by decide +kernel), by decide +kernel⟩
theorem mw520 : (.code ⟨"AppletFirewallModel", "select", "(I)I"⟩ prog_7_method_21_code 2 (some FieldType.int) : Cond) ∈ lw_g := List.mem_filter.mpr ⟨List.mem_of_getElem? (i := 520) (by decide +kernel), by decide +kernel⟩
theorem mw521 : (.constant "AppletFirewallModel" 103 36864 : Cond) ∈ lw_g := List.mem_filter.mpr ⟨List.mem_of_getElem? (i := 521) (by decide +kernel), by decide +kernel⟩
theorem mw522 : (.methodLink "AppletFirewallModel" 107 ⟨"AppletFirewallModel", "verify", "()I"⟩ : Cond) ∈ lw_g := List.mem_filter.mpr ⟨List.mem_of_getElem? (i := 522) (by decide +kernel), by decide +kernel⟩
theorem mw524 : (.instanceMethod ⟨"AppletFirewallModel", "verify", "()I"⟩ : Cond) ∈ lw_g := List.mem_filter.mpr ⟨List.mem_of_getElem? (i := 524) (by decide +kernel), by decide +kernel⟩
theorem mw525 : (.code ⟨"AppletFirewallModel", "verify", "()I"⟩ prog_7_method_22_code 2 (some FieldType.int) : Cond) ∈ lw_g := List.mem_filter.mpr ⟨List.mem_of_getElem? (i := 525) (by decide +kernel), by decide +kernel⟩
theorem mw526 : (.methodLink "AppletFirewallModel" 110 ⟨"AppletFirewallModel", "store", "(II)I"⟩ : Cond) ∈ lw_g := List.mem_filter.mpr ⟨List.mem_of_getElem? (i := 526) (by decide +kernel), by decide +kernel⟩
theorem mw528 : (.instanceMethod ⟨"AppletFirewallModel", "store", "(II)I"⟩ : Cond) ∈ lw_g := List.mem_filter.mpr ⟨List.mem_of_getElem? (i := 528) (by decide +kernel), by decide +kernel⟩
theorem mw529 : (.code ⟨"AppletFirewallModel", "store", "(II)I"⟩ prog_7_method_20_code 4 (some FieldType.int) : Cond) ∈ lw_g := List.mem_filter.mpr ⟨List.mem_of_getElem? (i := 529) (by decide +kernel), by decide +kernel⟩
theorem mw530 : (.methodLink "AppletFirewallModel" 132 ⟨"AppletFirewallModel", "change", "(II)Z"⟩ : Cond) ∈ lw_g := List.mem_filter.mpr ⟨List.mem_of_getElem? (i := 530) (by decide +kernel), by decide +kernel⟩
theorem mw532 : (.instanceMethod ⟨"AppletFirewallModel", "change", "(II)Z"⟩ : Cond) ∈ lw_g := List.mem_filter.mpr ⟨List.mem_of_getElem? (i := 532) (by decide +kernel), by decide +kernel⟩
theorem mw533 : (.code ⟨"AppletFirewallModel", "change", "(II)Z"⟩ prog_7_method_5_code 4 (some FieldType.boolean) : Cond) ∈ lw_g := List.mem_filter.mpr ⟨List.mem_of_getElem? (i := 533) (by decide +kernel), by decide +kernel⟩
theorem mw534 : (.methodLink "AppletFirewallModel" 136 ⟨"AppletFirewallModel", "settle", "()Z"⟩ : Cond) ∈ lw_g := List.mem_filter.mpr ⟨List.mem_of_getElem? (i := 534) (by decide +kernel), by decide +kernel⟩
theorem mw536 : (.instanceMethod ⟨"AppletFirewallModel", "settle", "()Z"⟩ : Cond) ∈ lw_g := List.mem_filter.mpr ⟨List.mem_of_getElem? (i := 536) (by decide +kernel), by decide +kernel⟩
theorem mw537 : (.code ⟨"AppletFirewallModel", "settle", "()Z"⟩ prog_7_method_6_code 1 (some FieldType.boolean) : Cond) ∈ lw_g := List.mem_filter.mpr ⟨List.mem_of_getElem? (i := 537) (by decide +kernel), by decide +kernel⟩
theorem mw538 : (.methodLink "AppletFirewallModel" 114 ⟨"AppletFirewallModel", "unblock", "(I)I"⟩ : Cond) ∈ lw_g := List.mem_filter.mpr ⟨List.mem_of_getElem? (i := 538) (by decide +kernel), by decide +kernel⟩
theorem mw540 : (.instanceMethod ⟨"AppletFirewallModel", "unblock", "(I)I"⟩ : Cond) ∈ lw_g := List.mem_filter.mpr ⟨List.mem_of_getElem? (i := 540) (by decide +kernel), by decide +kernel⟩
theorem mw541 : (.code ⟨"AppletFirewallModel", "unblock", "(I)I"⟩ prog_7_method_23_code 2 (some FieldType.int) : Cond) ∈ lw_g := List.mem_filter.mpr ⟨List.mem_of_getElem? (i := 541) (by decide +kernel), by decide +kernel⟩
theorem mw542 : (.methodLink "AppletFirewallModel" 117 ⟨"AppletFirewallModel", "read", "(III)I"⟩ : Cond) ∈ lw_g := List.mem_filter.mpr ⟨List.mem_of_getElem? (i := 542) (by decide +kernel), by decide +kernel⟩
theorem mw544 : (.instanceMethod ⟨"AppletFirewallModel", "read", "(III)I"⟩ : Cond) ∈ lw_g := List.mem_filter.mpr ⟨List.mem_of_getElem? (i := 544) (by decide +kernel), by decide +kernel⟩
theorem mw545 : (.code ⟨"AppletFirewallModel", "read", "(III)I"⟩ prog_7_method_26_code 6 (some FieldType.int) : Cond) ∈ lw_g := List.mem_filter.mpr ⟨List.mem_of_getElem? (i := 545) (by decide +kernel), by decide +kernel⟩
theorem mw546 : (.methodLink "AppletFirewallModel" 120 ⟨"AppletFirewallModel", "begin", "()I"⟩ : Cond) ∈ lw_g := List.mem_filter.mpr ⟨List.mem_of_getElem? (i := 546) (by decide +kernel), by decide +kernel⟩
theorem mw548 : (.instanceMethod ⟨"AppletFirewallModel", "begin", "()I"⟩ : Cond) ∈ lw_g := List.mem_filter.mpr ⟨List.mem_of_getElem? (i := 548) (by decide +kernel), by decide +kernel⟩
theorem mw549 : (.code ⟨"AppletFirewallModel", "begin", "()I"⟩ prog_7_method_24_code 1 (some FieldType.int) : Cond) ∈ lw_g := List.mem_filter.mpr ⟨List.mem_of_getElem? (i := 549) (by decide +kernel), by decide +kernel⟩
theorem mw550 : (.methodLink "AppletFirewallModel" 123 ⟨"AppletFirewallModel", "end", "(I)I"⟩ : Cond) ∈ lw_g := List.mem_filter.mpr ⟨List.mem_of_getElem? (i := 550) (by decide +kernel), by decide +kernel⟩
theorem mw552 : (.instanceMethod ⟨"AppletFirewallModel", "end", "(I)I"⟩ : Cond) ∈ lw_g := List.mem_filter.mpr ⟨List.mem_of_getElem? (i := 552) (by decide +kernel), by decide +kernel⟩
theorem mw553 : (.code ⟨"AppletFirewallModel", "end", "(I)I"⟩ prog_7_method_25_code 3 (some FieldType.int) : Cond) ∈ lw_g := List.mem_filter.mpr ⟨List.mem_of_getElem? (i := 553) (by decide +kernel), by decide +kernel⟩
theorem mw554 : (.methodLink "AppletFirewallModel" 126 ⟨"AppletFirewallModel", "grant", "(I)I"⟩ : Cond) ∈ lw_g := List.mem_filter.mpr ⟨List.mem_of_getElem? (i := 554) (by decide +kernel), by decide +kernel⟩
theorem mw556 : (.instanceMethod ⟨"AppletFirewallModel", "grant", "(I)I"⟩ : Cond) ∈ lw_g := List.mem_filter.mpr ⟨List.mem_of_getElem? (i := 556) (by decide +kernel), by decide +kernel⟩
theorem mw557 : (.code ⟨"AppletFirewallModel", "grant", "(I)I"⟩ prog_7_method_27_code 6 (some FieldType.int) : Cond) ∈ lw_g := List.mem_filter.mpr ⟨List.mem_of_getElem? (i := 557) (by decide +kernel), by decide +kernel⟩
theorem mw558 : (.methodLink "AppletFirewallModel" 129 ⟨"AppletFirewallModel", "shared", "(III)I"⟩ : Cond) ∈ lw_g := List.mem_filter.mpr ⟨List.mem_of_getElem? (i := 558) (by decide +kernel), by decide +kernel⟩
theorem mw560 : (.instanceMethod ⟨"AppletFirewallModel", "shared", "(III)I"⟩ : Cond) ∈ lw_g := List.mem_filter.mpr ⟨List.mem_of_getElem? (i := 560) (by decide +kernel), by decide +kernel⟩
theorem mw561 : (.code ⟨"AppletFirewallModel", "shared", "(III)I"⟩ prog_7_method_28_code 8 (some FieldType.int) : Cond) ∈ lw_g := List.mem_filter.mpr ⟨List.mem_of_getElem? (i := 561) (by decide +kernel), by decide +kernel⟩
theorem mw594 : (.constant "AppletFirewallModel" 139 65536 : Cond) ∈ lw_g := List.mem_filter.mpr ⟨List.mem_of_getElem? (i := 594) (by decide +kernel), by decide +kernel⟩
theorem mw595 : (.constant "AppletFirewallModel" 140 16777216 : Cond) ∈ lw_g := List.mem_filter.mpr ⟨List.mem_of_getElem? (i := 595) (by decide +kernel), by decide +kernel⟩
end
section
-- the states, as tuples
abbrev StM : Type := (Nat → Int32) × Int32 × Int32 × Int32
abbrev StI : Type := (Nat → Int32) × Int32
abbrev StX : Type := (Nat → Int32) × Int32 × Int32 × Int32 × (Nat → Int32) × Int32 × (Nat → Int32) × (Nat → Int32) × Int32 × Int32 × Int32 × Int32 × Int32
abbrev StR : Type := (Nat → Int32) × (Nat → Int32) × (Nat → Int32) × Int32 × Int32 × Int32 × Int32 × Int32 × Int32 × Int32 × Int32 × Int32 × (Nat → Int32) × Int32 × (Nat → Int32) × Int32
-- an index into an array of n places: nothing if it lies outside
def ix {β : Type} (i : Int32) (n : Nat) (k : Nat → Option β) : Option β := if i < 0 ∨ n ≤ i.toNatClampNeg then none else k i.toNatClampNeg
theorem ix_some {β : Type} {i : Int32} {n : Nat} {k : Nat → Option β} {r : β} (h : ix i n k = some r) : vp_in i n ∧ k i.toNatClampNeg = some r := by
  unfold ix at h
  by_cases hc : i < 0 ∨ n ≤ i.toNatClampNeg
  · rw [if_pos hc] at h; cases h
  · rw [if_neg hc] at h; exact ⟨hc, h⟩
theorem ix_nI {β : Type} {j n : Nat} (h : j < n) (hn : n < 2 ^ 31) (k : Nat → Option β) : ix (nI j) n k = k j := by
  unfold ix
  rw [if_neg (vp_in_nI h hn), nI_clamp (Nat.lt_trans h hn)]
theorem lw_all : ∀ w ∈ lw_g, goodWord w = true := fun _ h => (List.mem_filter.mp h).2
theorem goodIn_t {c0 : Cond} {ws : List Cond} (h : ∀ w ∈ ws, w ∈ lw_g) : GoodIn (c0 :: lw_g) ws := fun w hw => ⟨List.mem_cons_of_mem _ (h w hw), good_of_word (lw_all w (h w hw))⟩
theorem gC {c0 c1 : Cond} (h5 : c1 ∈ lw_g) : GoodIn (c0 :: lw_g) (c1 :: lw_g) := goodIn_t (fun w hw => by
  rcases List.mem_cons.mp hw with h | h
  · rw [h]; exact h5
  · exact h)
theorem gV {c0 c1 : Cond} {own C : String} {idx : Nat} {y : MethodName} (h1 : Cond.methodLink own idx y ∈ lw_g) (h2 : Cond.instanceMethod y ∈ lw_g) (h3 : Cond.selects C y y ∈ lw_g) (h4 : Cond.initialized C ∈ lw_g) (h5 : c1 ∈ lw_g) : GoodIn (c0 :: lw_g) (wsV own idx C y (c1 :: lw_g)) := goodIn_t (fun w hw => by
  unfold wsV at hw
  simp only [List.cons_append, List.nil_append, List.mem_cons] at hw
  rcases hw with h | h | h | h | h | h
  · rw [h]; exact h1
  · rw [h]; exact h2
  · rw [h]; exact h3
  · rw [h]; exact h4
  · rw [h]; exact h5
  · exact h)
theorem gS {c0 c1 : Cond} {own : String} {idx : Nat} {y : MethodName} (h1 : Cond.methodLink own idx y ∈ lw_g) (h2 : Cond.static y ∈ lw_g) (h4 : Cond.initialized y.cls ∈ lw_g) (h5 : c1 ∈ lw_g) : GoodIn (c0 :: lw_g) (va_wsS own idx y (c1 :: lw_g)) := goodIn_t (fun w hw => by
  unfold va_wsS at hw
  simp only [List.cons_append, List.nil_append, List.mem_cons] at hw
  rcases hw with h | h | h | h | h
  · rw [h]; exact h1
  · rw [h]; exact h2
  · rw [h]; exact h4
  · rw [h]; exact h5
  · exact h)
theorem ift {c : Prop} [Decidable c] {β : Type} {A B : Option β} {r : Option β} (h : (if c then A else B) = r) (hc : c) : A = r := by rwa [if_pos hc] at h
theorem lk_nil {d k : Int} : Op.lookupswitch.offset [] d k = d := rfl
theorem lk_cons {a o d k : Int} {r : List (Int × Int)} (h : ¬ a = k) (t : Op.lookupswitch.offset r d k = d) : Op.lookupswitch.offset ((a, o) :: r) d k = d := by
  rw [Op.lookupswitch.offset_cons, if_neg h]; exact t
theorem xne {x : Int32} {k : Int} (K : Int32) (hK : K.toInt = k) (h : ¬ x = K) : ¬ k = x.toInt := fun e => h (Int32.toInt_inj.mp (by rw [hK, e]))
theorem ifn {c : Prop} [Decidable c] {β : Type} {A B : Option β} {r : Option β} (h : (if c then A else B) = r) (hc : ¬ c) : B = r := by rwa [if_neg hc] at h

def bd1 {a1 β : Type} (o : Option (a1)) (k : a1 → Option β) : Option β := o.bind fun x => k x
theorem bd1_some {a1 β : Type} {o : Option (a1)} {k : a1 → Option β} {r : β} (h : bd1 o k = some r) : ∃ x1, o = some x1 ∧ k x1 = some r := by
  cases o with
  | none => cases h
  | some x => exact ⟨x, rfl, h⟩
theorem bd1_eq {a1 β : Type} {x1 : a1} (k : a1 → Option β) : bd1 (some x1) k = k x1 := rfl
theorem lf1 {t1 : Type} {C : t1 → Prop} {a1 : t1} {r1 : t1} (hf : some a1 = some r1) (h : C a1) : C r1 := by
  cases hf
  exact h
def bd2 {a1 a2 β : Type} (o : Option (a1 × a2)) (k : a1 → a2 → Option β) : Option β := o.bind fun x => k x.1 x.2
theorem bd2_some {a1 a2 β : Type} {o : Option (a1 × a2)} {k : a1 → a2 → Option β} {r : β} (h : bd2 o k = some r) : ∃ x1 x2, o = some (x1, x2) ∧ k x1 x2 = some r := by
  cases o with
  | none => cases h
  | some x => exact ⟨x.1, x.2, rfl, h⟩
theorem bd2_eq {a1 a2 β : Type} {x1 : a1} {x2 : a2} (k : a1 → a2 → Option β) : bd2 (some (x1, x2)) k = k x1 x2 := rfl
theorem lf2 {t1 t2 : Type} {C : t1 → t2 → Prop} {a1 : t1} {a2 : t2} {r1 : t1} {r2 : t2} (hf : some (a1, a2) = some (r1, r2)) (h : C a1 a2) : C r1 r2 := by
  cases hf
  exact h
def bd3 {a1 a2 a3 β : Type} (o : Option (a1 × a2 × a3)) (k : a1 → a2 → a3 → Option β) : Option β := o.bind fun x => k x.1 x.2.1 x.2.2
theorem bd3_some {a1 a2 a3 β : Type} {o : Option (a1 × a2 × a3)} {k : a1 → a2 → a3 → Option β} {r : β} (h : bd3 o k = some r) : ∃ x1 x2 x3, o = some (x1, x2, x3) ∧ k x1 x2 x3 = some r := by
  cases o with
  | none => cases h
  | some x => exact ⟨x.1, x.2.1, x.2.2, rfl, h⟩
theorem bd3_eq {a1 a2 a3 β : Type} {x1 : a1} {x2 : a2} {x3 : a3} (k : a1 → a2 → a3 → Option β) : bd3 (some (x1, x2, x3)) k = k x1 x2 x3 := rfl
theorem lf3 {t1 t2 t3 : Type} {C : t1 → t2 → t3 → Prop} {a1 : t1} {a2 : t2} {a3 : t3} {r1 : t1} {r2 : t2} {r3 : t3} (hf : some (a1, a2, a3) = some (r1, r2, r3)) (h : C a1 a2 a3) : C r1 r2 r3 := by
  cases hf
  exact h
def bd4 {a1 a2 a3 a4 β : Type} (o : Option (a1 × a2 × a3 × a4)) (k : a1 → a2 → a3 → a4 → Option β) : Option β := o.bind fun x => k x.1 x.2.1 x.2.2.1 x.2.2.2
theorem bd4_some {a1 a2 a3 a4 β : Type} {o : Option (a1 × a2 × a3 × a4)} {k : a1 → a2 → a3 → a4 → Option β} {r : β} (h : bd4 o k = some r) : ∃ x1 x2 x3 x4, o = some (x1, x2, x3, x4) ∧ k x1 x2 x3 x4 = some r := by
  cases o with
  | none => cases h
  | some x => exact ⟨x.1, x.2.1, x.2.2.1, x.2.2.2, rfl, h⟩
theorem bd4_eq {a1 a2 a3 a4 β : Type} {x1 : a1} {x2 : a2} {x3 : a3} {x4 : a4} (k : a1 → a2 → a3 → a4 → Option β) : bd4 (some (x1, x2, x3, x4)) k = k x1 x2 x3 x4 := rfl
theorem lf4 {t1 t2 t3 t4 : Type} {C : t1 → t2 → t3 → t4 → Prop} {a1 : t1} {a2 : t2} {a3 : t3} {a4 : t4} {r1 : t1} {r2 : t2} {r3 : t3} {r4 : t4} (hf : some (a1, a2, a3, a4) = some (r1, r2, r3, r4)) (h : C a1 a2 a3 a4) : C r1 r2 r3 r4 := by
  cases hf
  exact h
def bd5 {a1 a2 a3 a4 a5 β : Type} (o : Option (a1 × a2 × a3 × a4 × a5)) (k : a1 → a2 → a3 → a4 → a5 → Option β) : Option β := o.bind fun x => k x.1 x.2.1 x.2.2.1 x.2.2.2.1 x.2.2.2.2
theorem bd5_some {a1 a2 a3 a4 a5 β : Type} {o : Option (a1 × a2 × a3 × a4 × a5)} {k : a1 → a2 → a3 → a4 → a5 → Option β} {r : β} (h : bd5 o k = some r) : ∃ x1 x2 x3 x4 x5, o = some (x1, x2, x3, x4, x5) ∧ k x1 x2 x3 x4 x5 = some r := by
  cases o with
  | none => cases h
  | some x => exact ⟨x.1, x.2.1, x.2.2.1, x.2.2.2.1, x.2.2.2.2, rfl, h⟩
theorem bd5_eq {a1 a2 a3 a4 a5 β : Type} {x1 : a1} {x2 : a2} {x3 : a3} {x4 : a4} {x5 : a5} (k : a1 → a2 → a3 → a4 → a5 → Option β) : bd5 (some (x1, x2, x3, x4, x5)) k = k x1 x2 x3 x4 x5 := rfl
theorem lf5 {t1 t2 t3 t4 t5 : Type} {C : t1 → t2 → t3 → t4 → t5 → Prop} {a1 : t1} {a2 : t2} {a3 : t3} {a4 : t4} {a5 : t5} {r1 : t1} {r2 : t2} {r3 : t3} {r4 : t4} {r5 : t5} (hf : some (a1, a2, a3, a4, a5) = some (r1, r2, r3, r4, r5)) (h : C a1 a2 a3 a4 a5) : C r1 r2 r3 r4 r5 := by
  cases hf
  exact h
def bd13 {a1 a2 a3 a4 a5 a6 a7 a8 a9 a10 a11 a12 a13 β : Type} (o : Option (a1 × a2 × a3 × a4 × a5 × a6 × a7 × a8 × a9 × a10 × a11 × a12 × a13)) (k : a1 → a2 → a3 → a4 → a5 → a6 → a7 → a8 → a9 → a10 → a11 → a12 → a13 → Option β) : Option β := o.bind fun x => k x.1 x.2.1 x.2.2.1 x.2.2.2.1 x.2.2.2.2.1 x.2.2.2.2.2.1 x.2.2.2.2.2.2.1 x.2.2.2.2.2.2.2.1 x.2.2.2.2.2.2.2.2.1 x.2.2.2.2.2.2.2.2.2.1 x.2.2.2.2.2.2.2.2.2.2.1 x.2.2.2.2.2.2.2.2.2.2.2.1 x.2.2.2.2.2.2.2.2.2.2.2.2
theorem bd13_some {a1 a2 a3 a4 a5 a6 a7 a8 a9 a10 a11 a12 a13 β : Type} {o : Option (a1 × a2 × a3 × a4 × a5 × a6 × a7 × a8 × a9 × a10 × a11 × a12 × a13)} {k : a1 → a2 → a3 → a4 → a5 → a6 → a7 → a8 → a9 → a10 → a11 → a12 → a13 → Option β} {r : β} (h : bd13 o k = some r) : ∃ x1 x2 x3 x4 x5 x6 x7 x8 x9 x10 x11 x12 x13, o = some (x1, x2, x3, x4, x5, x6, x7, x8, x9, x10, x11, x12, x13) ∧ k x1 x2 x3 x4 x5 x6 x7 x8 x9 x10 x11 x12 x13 = some r := by
  cases o with
  | none => cases h
  | some x => exact ⟨x.1, x.2.1, x.2.2.1, x.2.2.2.1, x.2.2.2.2.1, x.2.2.2.2.2.1, x.2.2.2.2.2.2.1, x.2.2.2.2.2.2.2.1, x.2.2.2.2.2.2.2.2.1, x.2.2.2.2.2.2.2.2.2.1, x.2.2.2.2.2.2.2.2.2.2.1, x.2.2.2.2.2.2.2.2.2.2.2.1, x.2.2.2.2.2.2.2.2.2.2.2.2, rfl, h⟩
theorem bd13_eq {a1 a2 a3 a4 a5 a6 a7 a8 a9 a10 a11 a12 a13 β : Type} {x1 : a1} {x2 : a2} {x3 : a3} {x4 : a4} {x5 : a5} {x6 : a6} {x7 : a7} {x8 : a8} {x9 : a9} {x10 : a10} {x11 : a11} {x12 : a12} {x13 : a13} (k : a1 → a2 → a3 → a4 → a5 → a6 → a7 → a8 → a9 → a10 → a11 → a12 → a13 → Option β) : bd13 (some (x1, x2, x3, x4, x5, x6, x7, x8, x9, x10, x11, x12, x13)) k = k x1 x2 x3 x4 x5 x6 x7 x8 x9 x10 x11 x12 x13 := rfl
theorem lf13 {t1 t2 t3 t4 t5 t6 t7 t8 t9 t10 t11 t12 t13 : Type} {C : t1 → t2 → t3 → t4 → t5 → t6 → t7 → t8 → t9 → t10 → t11 → t12 → t13 → Prop} {a1 : t1} {a2 : t2} {a3 : t3} {a4 : t4} {a5 : t5} {a6 : t6} {a7 : t7} {a8 : t8} {a9 : t9} {a10 : t10} {a11 : t11} {a12 : t12} {a13 : t13} {r1 : t1} {r2 : t2} {r3 : t3} {r4 : t4} {r5 : t5} {r6 : t6} {r7 : t7} {r8 : t8} {r9 : t9} {r10 : t10} {r11 : t11} {r12 : t12} {r13 : t13} (hf : some (a1, a2, a3, a4, a5, a6, a7, a8, a9, a10, a11, a12, a13) = some (r1, r2, r3, r4, r5, r6, r7, r8, r9, r10, r11, r12, r13)) (h : C a1 a2 a3 a4 a5 a6 a7 a8 a9 a10 a11 a12 a13) : C r1 r2 r3 r4 r5 r6 r7 r8 r9 r10 r11 r12 r13 := by
  cases hf
  exact h
def bd14 {a1 a2 a3 a4 a5 a6 a7 a8 a9 a10 a11 a12 a13 a14 β : Type} (o : Option (a1 × a2 × a3 × a4 × a5 × a6 × a7 × a8 × a9 × a10 × a11 × a12 × a13 × a14)) (k : a1 → a2 → a3 → a4 → a5 → a6 → a7 → a8 → a9 → a10 → a11 → a12 → a13 → a14 → Option β) : Option β := o.bind fun x => k x.1 x.2.1 x.2.2.1 x.2.2.2.1 x.2.2.2.2.1 x.2.2.2.2.2.1 x.2.2.2.2.2.2.1 x.2.2.2.2.2.2.2.1 x.2.2.2.2.2.2.2.2.1 x.2.2.2.2.2.2.2.2.2.1 x.2.2.2.2.2.2.2.2.2.2.1 x.2.2.2.2.2.2.2.2.2.2.2.1 x.2.2.2.2.2.2.2.2.2.2.2.2.1 x.2.2.2.2.2.2.2.2.2.2.2.2.2
theorem bd14_some {a1 a2 a3 a4 a5 a6 a7 a8 a9 a10 a11 a12 a13 a14 β : Type} {o : Option (a1 × a2 × a3 × a4 × a5 × a6 × a7 × a8 × a9 × a10 × a11 × a12 × a13 × a14)} {k : a1 → a2 → a3 → a4 → a5 → a6 → a7 → a8 → a9 → a10 → a11 → a12 → a13 → a14 → Option β} {r : β} (h : bd14 o k = some r) : ∃ x1 x2 x3 x4 x5 x6 x7 x8 x9 x10 x11 x12 x13 x14, o = some (x1, x2, x3, x4, x5, x6, x7, x8, x9, x10, x11, x12, x13, x14) ∧ k x1 x2 x3 x4 x5 x6 x7 x8 x9 x10 x11 x12 x13 x14 = some r := by
  cases o with
  | none => cases h
  | some x => exact ⟨x.1, x.2.1, x.2.2.1, x.2.2.2.1, x.2.2.2.2.1, x.2.2.2.2.2.1, x.2.2.2.2.2.2.1, x.2.2.2.2.2.2.2.1, x.2.2.2.2.2.2.2.2.1, x.2.2.2.2.2.2.2.2.2.1, x.2.2.2.2.2.2.2.2.2.2.1, x.2.2.2.2.2.2.2.2.2.2.2.1, x.2.2.2.2.2.2.2.2.2.2.2.2.1, x.2.2.2.2.2.2.2.2.2.2.2.2.2, rfl, h⟩
theorem bd14_eq {a1 a2 a3 a4 a5 a6 a7 a8 a9 a10 a11 a12 a13 a14 β : Type} {x1 : a1} {x2 : a2} {x3 : a3} {x4 : a4} {x5 : a5} {x6 : a6} {x7 : a7} {x8 : a8} {x9 : a9} {x10 : a10} {x11 : a11} {x12 : a12} {x13 : a13} {x14 : a14} (k : a1 → a2 → a3 → a4 → a5 → a6 → a7 → a8 → a9 → a10 → a11 → a12 → a13 → a14 → Option β) : bd14 (some (x1, x2, x3, x4, x5, x6, x7, x8, x9, x10, x11, x12, x13, x14)) k = k x1 x2 x3 x4 x5 x6 x7 x8 x9 x10 x11 x12 x13 x14 := rfl
theorem lf14 {t1 t2 t3 t4 t5 t6 t7 t8 t9 t10 t11 t12 t13 t14 : Type} {C : t1 → t2 → t3 → t4 → t5 → t6 → t7 → t8 → t9 → t10 → t11 → t12 → t13 → t14 → Prop} {a1 : t1} {a2 : t2} {a3 : t3} {a4 : t4} {a5 : t5} {a6 : t6} {a7 : t7} {a8 : t8} {a9 : t9} {a10 : t10} {a11 : t11} {a12 : t12} {a13 : t13} {a14 : t14} {r1 : t1} {r2 : t2} {r3 : t3} {r4 : t4} {r5 : t5} {r6 : t6} {r7 : t7} {r8 : t8} {r9 : t9} {r10 : t10} {r11 : t11} {r12 : t12} {r13 : t13} {r14 : t14} (hf : some (a1, a2, a3, a4, a5, a6, a7, a8, a9, a10, a11, a12, a13, a14) = some (r1, r2, r3, r4, r5, r6, r7, r8, r9, r10, r11, r12, r13, r14)) (h : C a1 a2 a3 a4 a5 a6 a7 a8 a9 a10 a11 a12 a13 a14) : C r1 r2 r3 r4 r5 r6 r7 r8 r9 r10 r11 r12 r13 r14 := by
  cases hf
  exact h
def bd16 {a1 a2 a3 a4 a5 a6 a7 a8 a9 a10 a11 a12 a13 a14 a15 a16 β : Type} (o : Option (a1 × a2 × a3 × a4 × a5 × a6 × a7 × a8 × a9 × a10 × a11 × a12 × a13 × a14 × a15 × a16)) (k : a1 → a2 → a3 → a4 → a5 → a6 → a7 → a8 → a9 → a10 → a11 → a12 → a13 → a14 → a15 → a16 → Option β) : Option β := o.bind fun x => k x.1 x.2.1 x.2.2.1 x.2.2.2.1 x.2.2.2.2.1 x.2.2.2.2.2.1 x.2.2.2.2.2.2.1 x.2.2.2.2.2.2.2.1 x.2.2.2.2.2.2.2.2.1 x.2.2.2.2.2.2.2.2.2.1 x.2.2.2.2.2.2.2.2.2.2.1 x.2.2.2.2.2.2.2.2.2.2.2.1 x.2.2.2.2.2.2.2.2.2.2.2.2.1 x.2.2.2.2.2.2.2.2.2.2.2.2.2.1 x.2.2.2.2.2.2.2.2.2.2.2.2.2.2.1 x.2.2.2.2.2.2.2.2.2.2.2.2.2.2.2
theorem bd16_some {a1 a2 a3 a4 a5 a6 a7 a8 a9 a10 a11 a12 a13 a14 a15 a16 β : Type} {o : Option (a1 × a2 × a3 × a4 × a5 × a6 × a7 × a8 × a9 × a10 × a11 × a12 × a13 × a14 × a15 × a16)} {k : a1 → a2 → a3 → a4 → a5 → a6 → a7 → a8 → a9 → a10 → a11 → a12 → a13 → a14 → a15 → a16 → Option β} {r : β} (h : bd16 o k = some r) : ∃ x1 x2 x3 x4 x5 x6 x7 x8 x9 x10 x11 x12 x13 x14 x15 x16, o = some (x1, x2, x3, x4, x5, x6, x7, x8, x9, x10, x11, x12, x13, x14, x15, x16) ∧ k x1 x2 x3 x4 x5 x6 x7 x8 x9 x10 x11 x12 x13 x14 x15 x16 = some r := by
  cases o with
  | none => cases h
  | some x => exact ⟨x.1, x.2.1, x.2.2.1, x.2.2.2.1, x.2.2.2.2.1, x.2.2.2.2.2.1, x.2.2.2.2.2.2.1, x.2.2.2.2.2.2.2.1, x.2.2.2.2.2.2.2.2.1, x.2.2.2.2.2.2.2.2.2.1, x.2.2.2.2.2.2.2.2.2.2.1, x.2.2.2.2.2.2.2.2.2.2.2.1, x.2.2.2.2.2.2.2.2.2.2.2.2.1, x.2.2.2.2.2.2.2.2.2.2.2.2.2.1, x.2.2.2.2.2.2.2.2.2.2.2.2.2.2.1, x.2.2.2.2.2.2.2.2.2.2.2.2.2.2.2, rfl, h⟩
theorem bd16_eq {a1 a2 a3 a4 a5 a6 a7 a8 a9 a10 a11 a12 a13 a14 a15 a16 β : Type} {x1 : a1} {x2 : a2} {x3 : a3} {x4 : a4} {x5 : a5} {x6 : a6} {x7 : a7} {x8 : a8} {x9 : a9} {x10 : a10} {x11 : a11} {x12 : a12} {x13 : a13} {x14 : a14} {x15 : a15} {x16 : a16} (k : a1 → a2 → a3 → a4 → a5 → a6 → a7 → a8 → a9 → a10 → a11 → a12 → a13 → a14 → a15 → a16 → Option β) : bd16 (some (x1, x2, x3, x4, x5, x6, x7, x8, x9, x10, x11, x12, x13, x14, x15, x16)) k = k x1 x2 x3 x4 x5 x6 x7 x8 x9 x10 x11 x12 x13 x14 x15 x16 := rfl
theorem lf16 {t1 t2 t3 t4 t5 t6 t7 t8 t9 t10 t11 t12 t13 t14 t15 t16 : Type} {C : t1 → t2 → t3 → t4 → t5 → t6 → t7 → t8 → t9 → t10 → t11 → t12 → t13 → t14 → t15 → t16 → Prop} {a1 : t1} {a2 : t2} {a3 : t3} {a4 : t4} {a5 : t5} {a6 : t6} {a7 : t7} {a8 : t8} {a9 : t9} {a10 : t10} {a11 : t11} {a12 : t12} {a13 : t13} {a14 : t14} {a15 : t15} {a16 : t16} {r1 : t1} {r2 : t2} {r3 : t3} {r4 : t4} {r5 : t5} {r6 : t6} {r7 : t7} {r8 : t8} {r9 : t9} {r10 : t10} {r11 : t11} {r12 : t12} {r13 : t13} {r14 : t14} {r15 : t15} {r16 : t16} (hf : some (a1, a2, a3, a4, a5, a6, a7, a8, a9, a10, a11, a12, a13, a14, a15, a16) = some (r1, r2, r3, r4, r5, r6, r7, r8, r9, r10, r11, r12, r13, r14, r15, r16)) (h : C a1 a2 a3 a4 a5 a6 a7 a8 a9 a10 a11 a12 a13 a14 a15 a16) : C r1 r2 r3 r4 r5 r6 r7 r8 r9 r10 r11 r12 r13 r14 r15 r16 := by
  cases hf
  exact h
def bd17 {a1 a2 a3 a4 a5 a6 a7 a8 a9 a10 a11 a12 a13 a14 a15 a16 a17 β : Type} (o : Option (a1 × a2 × a3 × a4 × a5 × a6 × a7 × a8 × a9 × a10 × a11 × a12 × a13 × a14 × a15 × a16 × a17)) (k : a1 → a2 → a3 → a4 → a5 → a6 → a7 → a8 → a9 → a10 → a11 → a12 → a13 → a14 → a15 → a16 → a17 → Option β) : Option β := o.bind fun x => k x.1 x.2.1 x.2.2.1 x.2.2.2.1 x.2.2.2.2.1 x.2.2.2.2.2.1 x.2.2.2.2.2.2.1 x.2.2.2.2.2.2.2.1 x.2.2.2.2.2.2.2.2.1 x.2.2.2.2.2.2.2.2.2.1 x.2.2.2.2.2.2.2.2.2.2.1 x.2.2.2.2.2.2.2.2.2.2.2.1 x.2.2.2.2.2.2.2.2.2.2.2.2.1 x.2.2.2.2.2.2.2.2.2.2.2.2.2.1 x.2.2.2.2.2.2.2.2.2.2.2.2.2.2.1 x.2.2.2.2.2.2.2.2.2.2.2.2.2.2.2.1 x.2.2.2.2.2.2.2.2.2.2.2.2.2.2.2.2
theorem bd17_some {a1 a2 a3 a4 a5 a6 a7 a8 a9 a10 a11 a12 a13 a14 a15 a16 a17 β : Type} {o : Option (a1 × a2 × a3 × a4 × a5 × a6 × a7 × a8 × a9 × a10 × a11 × a12 × a13 × a14 × a15 × a16 × a17)} {k : a1 → a2 → a3 → a4 → a5 → a6 → a7 → a8 → a9 → a10 → a11 → a12 → a13 → a14 → a15 → a16 → a17 → Option β} {r : β} (h : bd17 o k = some r) : ∃ x1 x2 x3 x4 x5 x6 x7 x8 x9 x10 x11 x12 x13 x14 x15 x16 x17, o = some (x1, x2, x3, x4, x5, x6, x7, x8, x9, x10, x11, x12, x13, x14, x15, x16, x17) ∧ k x1 x2 x3 x4 x5 x6 x7 x8 x9 x10 x11 x12 x13 x14 x15 x16 x17 = some r := by
  cases o with
  | none => cases h
  | some x => exact ⟨x.1, x.2.1, x.2.2.1, x.2.2.2.1, x.2.2.2.2.1, x.2.2.2.2.2.1, x.2.2.2.2.2.2.1, x.2.2.2.2.2.2.2.1, x.2.2.2.2.2.2.2.2.1, x.2.2.2.2.2.2.2.2.2.1, x.2.2.2.2.2.2.2.2.2.2.1, x.2.2.2.2.2.2.2.2.2.2.2.1, x.2.2.2.2.2.2.2.2.2.2.2.2.1, x.2.2.2.2.2.2.2.2.2.2.2.2.2.1, x.2.2.2.2.2.2.2.2.2.2.2.2.2.2.1, x.2.2.2.2.2.2.2.2.2.2.2.2.2.2.2.1, x.2.2.2.2.2.2.2.2.2.2.2.2.2.2.2.2, rfl, h⟩
theorem bd17_eq {a1 a2 a3 a4 a5 a6 a7 a8 a9 a10 a11 a12 a13 a14 a15 a16 a17 β : Type} {x1 : a1} {x2 : a2} {x3 : a3} {x4 : a4} {x5 : a5} {x6 : a6} {x7 : a7} {x8 : a8} {x9 : a9} {x10 : a10} {x11 : a11} {x12 : a12} {x13 : a13} {x14 : a14} {x15 : a15} {x16 : a16} {x17 : a17} (k : a1 → a2 → a3 → a4 → a5 → a6 → a7 → a8 → a9 → a10 → a11 → a12 → a13 → a14 → a15 → a16 → a17 → Option β) : bd17 (some (x1, x2, x3, x4, x5, x6, x7, x8, x9, x10, x11, x12, x13, x14, x15, x16, x17)) k = k x1 x2 x3 x4 x5 x6 x7 x8 x9 x10 x11 x12 x13 x14 x15 x16 x17 := rfl
theorem lf17 {t1 t2 t3 t4 t5 t6 t7 t8 t9 t10 t11 t12 t13 t14 t15 t16 t17 : Type} {C : t1 → t2 → t3 → t4 → t5 → t6 → t7 → t8 → t9 → t10 → t11 → t12 → t13 → t14 → t15 → t16 → t17 → Prop} {a1 : t1} {a2 : t2} {a3 : t3} {a4 : t4} {a5 : t5} {a6 : t6} {a7 : t7} {a8 : t8} {a9 : t9} {a10 : t10} {a11 : t11} {a12 : t12} {a13 : t13} {a14 : t14} {a15 : t15} {a16 : t16} {a17 : t17} {r1 : t1} {r2 : t2} {r3 : t3} {r4 : t4} {r5 : t5} {r6 : t6} {r7 : t7} {r8 : t8} {r9 : t9} {r10 : t10} {r11 : t11} {r12 : t12} {r13 : t13} {r14 : t14} {r15 : t15} {r16 : t16} {r17 : t17} (hf : some (a1, a2, a3, a4, a5, a6, a7, a8, a9, a10, a11, a12, a13, a14, a15, a16, a17) = some (r1, r2, r3, r4, r5, r6, r7, r8, r9, r10, r11, r12, r13, r14, r15, r16, r17)) (h : C a1 a2 a3 a4 a5 a6 a7 a8 a9 a10 a11 a12 a13 a14 a15 a16 a17) : C r1 r2 r3 r4 r5 r6 r7 r8 r9 r10 r11 r12 r13 r14 r15 r16 r17 := by
  cases hf
  exact h
-- contracts of one kind: the world w comes in, the world w' goes out, nothing is made
def CtI (l : Launch) (y : MethodName) (ws : List Cond) (rm : Room) (D : va_G) (tys : List (ClassId × FieldType)) (av : List Value) (w w' : va_W) (r : Int32) : Prop := ∀ sz : Nat, Met l y ws rm (va_Pc av (fun U => U.heap.size = sz ∧ va_P D vwCl w U.heap ∧ va_K D vwCl tys U ∧ va_D (fun _ => True) w)) (va_Qi (fun (r' : Int32) (_ : Unit) => r' = r) (fun _ t => va_P D vwCl w' t.heap ∧ va_K D vwCl tys t ∧ va_D (va_A w sz) w') (va_A w sz)) 0 0 (va_A w sz)
def CtZ (l : Launch) (y : MethodName) (ws : List Cond) (rm : Room) (D : va_G) (tys : List (ClassId × FieldType)) (av : List Value) (w w' : va_W) (r : Int32) : Prop := ∀ sz : Nat, Met l y ws rm (va_Pc av (fun U => U.heap.size = sz ∧ va_P D vwCl w U.heap ∧ va_K D vwCl tys U ∧ va_D (fun _ => True) w)) (va_Qi (fun (r' : Int32) (_ : Unit) => r' = r ∧ narrow .boolean (.int r) = .int r) (fun _ t => va_P D vwCl w' t.heap ∧ va_K D vwCl tys t ∧ va_D (va_A w sz) w') (va_A w sz)) 0 0 (va_A w sz)
def CtV (l : Launch) (y : MethodName) (ws : List Cond) (rm : Room) (D : va_G) (tys : List (ClassId × FieldType)) (av : List Value) (w w' : va_W) : Prop := ∀ sz : Nat, Met l y ws rm (va_Pc av (fun U => U.heap.size = sz ∧ va_P D vwCl w U.heap ∧ va_K D vwCl tys U ∧ va_D (fun _ => True) w)) (va_Qv (fun (_ : Unit) => True) (fun _ t => va_P D vwCl w' t.heap ∧ va_K D vwCl tys t ∧ va_D (va_A w sz) w') (va_A w sz)) 0 0 (va_A w sz)
def CtR (l : Launch) (y : MethodName) (ws : List Cond) (rm : Room) (D : va_G) (tys : List (ClassId × FieldType)) (av : List Value) (w w' : va_W) (q : Nat) : Prop := ∀ sz : Nat, Met l y ws rm (va_Pc av (fun U => U.heap.size = sz ∧ va_P D vwCl w U.heap ∧ va_K D vwCl tys U ∧ va_D (fun _ => True) w)) (va_Qr (fun (_ : Unit) => True) (fun _ a t => a = q ∧ va_P D vwCl w' t.heap ∧ va_K D vwCl tys t ∧ va_D (va_A w sz) w') (va_A w sz)) 0 0 (va_A w sz)
def CtN (l : Launch) (y : MethodName) (ws : List Cond) (rm : Room) (D : va_G) (tys : List (ClassId × FieldType)) (av : List Value) (w : va_W) {S : Type} (w' : S → va_W) (mc ms : Nat) : Prop := ∀ sz : Nat, Met l y ws rm (va_Pc av (fun U => U.heap.size = sz ∧ va_P D vwCl w U.heap ∧ va_K D vwCl tys U ∧ va_D (fun _ => True) w)) (va_Qv (fun (_ : S) => True) (fun u t => va_P D vwCl (w' u) t.heap ∧ va_K D vwCl tys t ∧ va_D (va_A w sz) (w' u)) (va_A w sz)) mc ms (va_A w sz)
theorem xsubP {D : va_G} {cl : List vw_C} {ws wc : va_W} {H : Heap} (h : va_P D cl ws H) (is : List Nat) (hC : is.map (fun i => ws[i]?) = wc.map some) : va_P D cl wc H := by
  intro k q hk
  have h1 : (is.map (fun i => ws[i]?))[k]? = some (some q) := by rw [hC, List.getElem?_map, hk]; rfl
  rw [List.getElem?_map] at h1
  cases hi : is[k]? with
  | none => rw [hi] at h1; cases h1
  | some i => rw [hi] at h1; exact h i q (Option.some.inj h1)

section XCALL
variable {p : Program} {l : Launch} {e : Env} {R : Room} {s : State} {m : MethodId} {args : Array Value} {below : List Frame} {meth : Method} {c : Code} {H : Heap} {locs : List Loc} {cells slots : Nat} {Q : State → Prop}
variable {y : MethodName} {bytes cc : ByteArray} {maxL nL n index pc : Nat} {ret : Option FieldType} {ws : List Cond} {rm : Room} {Ts : List Cond} {own C host : String} {b : Addr} {As rest st0 : List Value} {ls : Array Slot} {D : va_G} {tys : List (ClassId × FieldType)} {A : Nat → Prop} {w wc wc' wr : va_W} {r : Int32}
theorem xfb {D : va_G} {tys : List (ClassId × FieldType)} {av : List Value} {wc : va_W} {sz : Nat} : FrameBlind (va_Pc av (fun U => U.heap.size = sz ∧ va_P D vwCl wc U.heap ∧ va_K D vwCl tys U ∧ va_D (fun _ => True) wc)) := fun a U g mk q => by
  obtain ⟨q0, q1, qP, qK, qD⟩ := q
  exact ⟨q0, q1, qP, va_K.moved (u := U) (U := U.calling g mk a) (Vm.Alike.refl U.vm) qK, qD⟩
theorem xloop {σ : Type} (Inv : Nat → σ → Heap → List Loc → Array Slot → Prop) {pc : Nat}
    (hs : ∀ n : Nat, (∀ (x : σ) (H : Heap) (locs : List Loc) (ls : Array Slot), Inv n x H locs ls → W p l e R s m args below meth c H locs cells slots Q (F0 m pc ls [])) → ∀ (x : σ) (H : Heap) (locs : List Loc) (ls : Array Slot), Inv (n + 1) x H locs ls → W p l e R s m args below meth c H locs cells slots Q (F0 m pc ls []))
    (h0 : ∀ (x : σ) (H : Heap) (locs : List Loc) (ls : Array Slot), ¬ Inv 0 x H locs ls) :
    ∀ (n : Nat) (x : σ) (H : Heap) (locs : List Loc) (ls : Array Slot), Inv n x H locs ls → W p l e R s m args below meth c H locs cells slots Q (F0 m pc ls []) := by
  intro n
  induction n with
  | zero => intro x H locs ls h; exact absurd h (h0 x H locs ls)
  | succ n ih => exact hs n ih

theorem xgi {a : Array Value} (hr : va_Run p l e R s m args below meth c H locs cells slots 0 0 (F0 m pc ls st0) rest (va_Qi (fun (r' : Int32) (_ : Unit) => r' = r) (fun _ t => va_P D vwCl wc' t.heap ∧ va_K D vwCl tys t ∧ va_D (va_A wc H.size) wc') (va_A wc H.size) a) (va_A wc H.size)) (hP : va_P D vwCl w H) (hD : va_D A w) (hS : va_S A s.heap H locs) (hA : ∀ q, s.heap.size ≤ q → A q)
    (isC isR : List Nat) (hC : isC.map (fun i => w[i]?) = wc.map some) (hR : isR.map (fun i => w[i]?) = wr.map some) (hnR : va_nd isR = true) (hdis : ∀ i ∈ isR, i ∉ isC)
    (kk : ∀ (H : Heap) (locs : List Loc), va_P D vwCl (wr ++ wc') H → va_D A (wr ++ wc') → va_S A s.heap H locs → W p l e R s m args below meth c H locs cells slots Q (F0 m (pc + 3) ls (.int r :: rest))) : W p l e R s m args below meth c H locs cells slots Q (F0 m pc ls st0) := by
  have hFc := va_free (wc := wc) hD hS hA isC hC
  refine va_calli hr hS (fun q _ h => hFc q h) hFc (fun r' u t H1 locs1 ht hvm hr' hB hz1 hk1 hS1 => ?_)
  subst hr'
  obtain ⟨hP1, hK1, hD1⟩ := hB
  rw [ht] at hP1
  obtain ⟨hP', hD'⟩ := va_join (wr := wr) (w1 := wc') hP hD isC isR hC hR hnR hdis hk1 hFc hP1 hD1
  exact kk H1 locs1 hP' hD' hS1
theorem xci (hM : CtI l y ws rm D tys (.ref b :: As) wc wc' r) (S : CallFix p m c cc nL s args Ts own) (cw : CallW R s args own C index y bytes maxL ret ws rm 0 0 n) (hK : va_K D vwCl tys s) (hP : va_P D vwCl w H) (hD : va_D A w) (hS : va_S A s.heap H locs) (hA : ∀ q, s.heap.size ≤ q → A q)
    (isC isR : List Nat) (hC : isC.map (fun i => w[i]?) = wc.map some) (hR : isR.map (fun i => w[i]?) = wr.map some) (hnC : va_nd isC = true) (hnR : va_nd isR = true) (hdis : ∀ i ∈ isR, i ∉ isC)
    {ci : Nat} {q : vw_C} {fs : List Value} {q0 : Nat} (hcl : vwCl[ci]? = some q) (hq : q.1 = C) (he : w[q0]? = some (b, .inr (ci, fs)))
    (hn : As.length = n) (hsz : ls.size = nL) (hst : st0 = As.reverse ++ .ref b :: rest) (hW : (rest.map fun v => v.category).sum ≤ 8) (hdg : decode cc pc = .ok (.invokevirtual index, 3)) (hf : cells ≤ R.cells ∧ slots ≤ R.slots)
    (kk : ∀ (H : Heap) (locs : List Loc), va_P D vwCl (wr ++ wc') H → va_D A (wr ++ wc') → va_S A s.heap H locs → W p l e R s m args below meth c H locs cells slots Q (F0 m (pc + 3) ls (.int r :: rest))) : W p l e R s m args below meth c H locs cells slots Q (F0 m pc ls st0) := by
  have hrc := va_recv hK hP hcl he
  rw [hq] at hrc
  refine xgi (va_runV S (hM H.size) cw ⟨xfb, hrc, fun U hU hW => ⟨rfl, by rw [hU], by rw [hU]; exact xsubP hP isC hC, va_K.moved hW.alike hK, (hD.sub isC hnC hC).weaken (fun _ _ _ _ => trivial)⟩⟩ rfl hn hsz hst (lv_room hW) hdg hf) hP hD hS hA isC isR hC hR hnR hdis kk
theorem xcNi (hM : CtI l y ws rm D tys (.ref b :: As) wc wc' r) (S : CallFix p m c cc nL s args Ts own) (cw : va_CN R s args own index y host bytes maxL ret ws rm 0 0 n ∧ (Cond.instanceMethod y).before args s = true ∧ (Cond.selects C y y).before args s = true) (hK : va_K D vwCl tys s) (hP : va_P D vwCl w H) (hD : va_D A w) (hS : va_S A s.heap H locs) (hA : ∀ q, s.heap.size ≤ q → A q)
    (isC isR : List Nat) (hC : isC.map (fun i => w[i]?) = wc.map some) (hR : isR.map (fun i => w[i]?) = wr.map some) (hnC : va_nd isC = true) (hnR : va_nd isR = true) (hdis : ∀ i ∈ isR, i ∉ isC)
    {ci : Nat} {q : vw_C} {fs : List Value} {q0 : Nat} (hcl : vwCl[ci]? = some q) (hq : q.1 = C) (he : w[q0]? = some (b, .inr (ci, fs)))
    (hn : As.length = n) (hsz : ls.size = nL) (hst : st0 = As.reverse ++ .ref b :: rest) (hW : (rest.map fun v => v.category).sum ≤ 8) (hdg : decode cc pc = .ok (.invokevirtual index, 3)) (hf : cells ≤ R.cells ∧ slots ≤ R.slots)
    (kk : ∀ (H : Heap) (locs : List Loc), va_P D vwCl (wr ++ wc') H → va_D A (wr ++ wc') → va_S A s.heap H locs → W p l e R s m args below meth c H locs cells slots Q (F0 m (pc + 3) ls (.int r :: rest))) : W p l e R s m args below meth c H locs cells slots Q (F0 m pc ls st0) := by
  have hrc := va_recv hK hP hcl he
  rw [hq] at hrc
  refine xgi (va_runVN S (hM H.size) cw ⟨xfb, hrc, fun U hU hW => ⟨rfl, by rw [hU], by rw [hU]; exact xsubP hP isC hC, va_K.moved hW.alike hK, (hD.sub isC hnC hC).weaken (fun _ _ _ _ => trivial)⟩⟩ rfl hn hsz hst (lv_room hW) hdg hf) hP hD hS hA isC isR hC hR hnR hdis kk
theorem xsi (hM : CtI l y ws rm D tys As [] [] r) (S : CallFix p m c cc nL s args Ts own) (cw : CallB R s args own index y bytes maxL ret ws rm 0 0 n ∧ (Cond.static y).before args s = true) (hK : va_K D vwCl tys s) (hP : va_P D vwCl w H) (hD : va_D A w) (hS : va_S A s.heap H locs) (hA : ∀ q, s.heap.size ≤ q → A q)
    (hn : As.length = n) (hsz : ls.size = nL) (hst : st0 = As.reverse ++ rest) (hW : (rest.map fun v => v.category).sum ≤ 8) (hdg : decode cc pc = .ok (.invokestatic index, 3)) (hf : cells ≤ R.cells ∧ slots ≤ R.slots)
    (kk : ∀ (H : Heap) (locs : List Loc), va_P D vwCl w H → va_D A w → va_S A s.heap H locs → W p l e R s m args below meth c H locs cells slots Q (F0 m (pc + 3) ls (.int r :: rest))) : W p l e R s m args below meth c H locs cells slots Q (F0 m pc ls st0) := by
  have hnil : va_P D vwCl [] H := fun k q hk => by cases hk
  have hnilD : va_D (fun _ => True) [] := ⟨fun i j p q hp => by simp at hp, fun k q hk => by simp at hk⟩
  have hFc : ∀ q, va_A [] H.size q → A q := fun q h => by
    rcases h with ⟨k, e, h⟩ | h
    · simp at h
    · exact hA q (Nat.le_trans hS.1 h)
  refine va_calli (va_runS S (hM H.size) cw ⟨xfb, fun U hU hW => ⟨rfl, by rw [hU], by rw [hU]; exact hnil, va_K.moved hW.alike hK, hnilD⟩⟩ rfl hn hsz hst (lv_room hW) hdg hf) hS (fun q _ h => hFc q h) hFc (fun r' u t H1 locs1 ht hvm hr' hB hz1 hk1 hS1 => ?_)
  subst hr'
  have hkept : va_P D vwCl w H1 := hP.kept (fun k q hk => hk1 q.1 (hP k q hk).lt (fun h => by
    rcases h with ⟨k2, e2, h2⟩ | h2
    · simp at h2
    · exact absurd (hP k q hk).lt (Nat.not_lt.mpr h2)))
  exact kk H1 locs1 hkept hD hS1
theorem xsNi (hM : CtI l y ws rm D tys As [] [] r) (S : CallFix p m c cc nL s args Ts own) (cw : va_CN R s args own index y host bytes maxL ret ws rm 0 0 n ∧ (Cond.static y).before args s = true ∧ True) (hK : va_K D vwCl tys s) (hP : va_P D vwCl w H) (hD : va_D A w) (hS : va_S A s.heap H locs) (hA : ∀ q, s.heap.size ≤ q → A q)
    (hn : As.length = n) (hsz : ls.size = nL) (hst : st0 = As.reverse ++ rest) (hW : (rest.map fun v => v.category).sum ≤ 8) (hdg : decode cc pc = .ok (.invokestatic index, 3)) (hf : cells ≤ R.cells ∧ slots ≤ R.slots)
    (kk : ∀ (H : Heap) (locs : List Loc), va_P D vwCl w H → va_D A w → va_S A s.heap H locs → W p l e R s m args below meth c H locs cells slots Q (F0 m (pc + 3) ls (.int r :: rest))) : W p l e R s m args below meth c H locs cells slots Q (F0 m pc ls st0) := by
  have hnil : va_P D vwCl [] H := fun k q hk => by cases hk
  have hnilD : va_D (fun _ => True) [] := ⟨fun i j p q hp => by simp at hp, fun k q hk => by simp at hk⟩
  have hFc : ∀ q, va_A [] H.size q → A q := fun q h => by
    rcases h with ⟨k, e, h⟩ | h
    · simp at h
    · exact hA q (Nat.le_trans hS.1 h)
  refine va_calli (va_runSN S (hM H.size) cw ⟨xfb, fun U hU hW => ⟨rfl, by rw [hU], by rw [hU]; exact hnil, va_K.moved hW.alike hK, hnilD⟩⟩ rfl hn hsz hst (lv_room hW) hdg hf) hS (fun q _ h => hFc q h) hFc (fun r' u t H1 locs1 ht hvm hr' hB hz1 hk1 hS1 => ?_)
  subst hr'
  have hkept : va_P D vwCl w H1 := hP.kept (fun k q hk => hk1 q.1 (hP k q hk).lt (fun h => by
    rcases h with ⟨k2, e2, h2⟩ | h2
    · simp at h2
    · exact absurd (hP k q hk).lt (Nat.not_lt.mpr h2)))
  exact kk H1 locs1 hkept hD hS1
theorem xgz {a : Array Value} (hr : va_Run p l e R s m args below meth c H locs cells slots 0 0 (F0 m pc ls st0) rest (va_Qi (fun (r' : Int32) (_ : Unit) => r' = r ∧ narrow .boolean (.int r) = .int r) (fun _ t => va_P D vwCl wc' t.heap ∧ va_K D vwCl tys t ∧ va_D (va_A wc H.size) wc') (va_A wc H.size) a) (va_A wc H.size)) (hP : va_P D vwCl w H) (hD : va_D A w) (hS : va_S A s.heap H locs) (hA : ∀ q, s.heap.size ≤ q → A q)
    (isC isR : List Nat) (hC : isC.map (fun i => w[i]?) = wc.map some) (hR : isR.map (fun i => w[i]?) = wr.map some) (hnR : va_nd isR = true) (hdis : ∀ i ∈ isR, i ∉ isC)
    (kk : ∀ (H : Heap) (locs : List Loc), narrow .boolean (.int r) = .int r → va_P D vwCl (wr ++ wc') H → va_D A (wr ++ wc') → va_S A s.heap H locs → W p l e R s m args below meth c H locs cells slots Q (F0 m (pc + 3) ls (.int r :: rest))) : W p l e R s m args below meth c H locs cells slots Q (F0 m pc ls st0) := by
  have hFc := va_free (wc := wc) hD hS hA isC hC
  refine va_calli hr hS (fun q _ h => hFc q h) hFc (fun r' u t H1 locs1 ht hvm hr' hB hz1 hk1 hS1 => ?_)
  obtain ⟨hr1, hr2⟩ := hr'
  subst hr1
  obtain ⟨hP1, hK1, hD1⟩ := hB
  rw [ht] at hP1
  obtain ⟨hP', hD'⟩ := va_join (wr := wr) (w1 := wc') hP hD isC isR hC hR hnR hdis hk1 hFc hP1 hD1
  exact kk H1 locs1 hr2 hP' hD' hS1
theorem xcz (hM : CtZ l y ws rm D tys (.ref b :: As) wc wc' r) (S : CallFix p m c cc nL s args Ts own) (cw : CallW R s args own C index y bytes maxL ret ws rm 0 0 n) (hK : va_K D vwCl tys s) (hP : va_P D vwCl w H) (hD : va_D A w) (hS : va_S A s.heap H locs) (hA : ∀ q, s.heap.size ≤ q → A q)
    (isC isR : List Nat) (hC : isC.map (fun i => w[i]?) = wc.map some) (hR : isR.map (fun i => w[i]?) = wr.map some) (hnC : va_nd isC = true) (hnR : va_nd isR = true) (hdis : ∀ i ∈ isR, i ∉ isC)
    {ci : Nat} {q : vw_C} {fs : List Value} {q0 : Nat} (hcl : vwCl[ci]? = some q) (hq : q.1 = C) (he : w[q0]? = some (b, .inr (ci, fs)))
    (hn : As.length = n) (hsz : ls.size = nL) (hst : st0 = As.reverse ++ .ref b :: rest) (hW : (rest.map fun v => v.category).sum ≤ 8) (hdg : decode cc pc = .ok (.invokevirtual index, 3)) (hf : cells ≤ R.cells ∧ slots ≤ R.slots)
    (kk : ∀ (H : Heap) (locs : List Loc), narrow .boolean (.int r) = .int r → va_P D vwCl (wr ++ wc') H → va_D A (wr ++ wc') → va_S A s.heap H locs → W p l e R s m args below meth c H locs cells slots Q (F0 m (pc + 3) ls (.int r :: rest))) : W p l e R s m args below meth c H locs cells slots Q (F0 m pc ls st0) := by
  have hrc := va_recv hK hP hcl he
  rw [hq] at hrc
  refine xgz (va_runV S (hM H.size) cw ⟨xfb, hrc, fun U hU hW => ⟨rfl, by rw [hU], by rw [hU]; exact xsubP hP isC hC, va_K.moved hW.alike hK, (hD.sub isC hnC hC).weaken (fun _ _ _ _ => trivial)⟩⟩ rfl hn hsz hst (lv_room hW) hdg hf) hP hD hS hA isC isR hC hR hnR hdis kk
theorem xcNz (hM : CtZ l y ws rm D tys (.ref b :: As) wc wc' r) (S : CallFix p m c cc nL s args Ts own) (cw : va_CN R s args own index y host bytes maxL ret ws rm 0 0 n ∧ (Cond.instanceMethod y).before args s = true ∧ (Cond.selects C y y).before args s = true) (hK : va_K D vwCl tys s) (hP : va_P D vwCl w H) (hD : va_D A w) (hS : va_S A s.heap H locs) (hA : ∀ q, s.heap.size ≤ q → A q)
    (isC isR : List Nat) (hC : isC.map (fun i => w[i]?) = wc.map some) (hR : isR.map (fun i => w[i]?) = wr.map some) (hnC : va_nd isC = true) (hnR : va_nd isR = true) (hdis : ∀ i ∈ isR, i ∉ isC)
    {ci : Nat} {q : vw_C} {fs : List Value} {q0 : Nat} (hcl : vwCl[ci]? = some q) (hq : q.1 = C) (he : w[q0]? = some (b, .inr (ci, fs)))
    (hn : As.length = n) (hsz : ls.size = nL) (hst : st0 = As.reverse ++ .ref b :: rest) (hW : (rest.map fun v => v.category).sum ≤ 8) (hdg : decode cc pc = .ok (.invokevirtual index, 3)) (hf : cells ≤ R.cells ∧ slots ≤ R.slots)
    (kk : ∀ (H : Heap) (locs : List Loc), narrow .boolean (.int r) = .int r → va_P D vwCl (wr ++ wc') H → va_D A (wr ++ wc') → va_S A s.heap H locs → W p l e R s m args below meth c H locs cells slots Q (F0 m (pc + 3) ls (.int r :: rest))) : W p l e R s m args below meth c H locs cells slots Q (F0 m pc ls st0) := by
  have hrc := va_recv hK hP hcl he
  rw [hq] at hrc
  refine xgz (va_runVN S (hM H.size) cw ⟨xfb, hrc, fun U hU hW => ⟨rfl, by rw [hU], by rw [hU]; exact xsubP hP isC hC, va_K.moved hW.alike hK, (hD.sub isC hnC hC).weaken (fun _ _ _ _ => trivial)⟩⟩ rfl hn hsz hst (lv_room hW) hdg hf) hP hD hS hA isC isR hC hR hnR hdis kk
theorem xsz (hM : CtZ l y ws rm D tys As [] [] r) (S : CallFix p m c cc nL s args Ts own) (cw : CallB R s args own index y bytes maxL ret ws rm 0 0 n ∧ (Cond.static y).before args s = true) (hK : va_K D vwCl tys s) (hP : va_P D vwCl w H) (hD : va_D A w) (hS : va_S A s.heap H locs) (hA : ∀ q, s.heap.size ≤ q → A q)
    (hn : As.length = n) (hsz : ls.size = nL) (hst : st0 = As.reverse ++ rest) (hW : (rest.map fun v => v.category).sum ≤ 8) (hdg : decode cc pc = .ok (.invokestatic index, 3)) (hf : cells ≤ R.cells ∧ slots ≤ R.slots)
    (kk : ∀ (H : Heap) (locs : List Loc), narrow .boolean (.int r) = .int r → va_P D vwCl w H → va_D A w → va_S A s.heap H locs → W p l e R s m args below meth c H locs cells slots Q (F0 m (pc + 3) ls (.int r :: rest))) : W p l e R s m args below meth c H locs cells slots Q (F0 m pc ls st0) := by
  have hnil : va_P D vwCl [] H := fun k q hk => by cases hk
  have hnilD : va_D (fun _ => True) [] := ⟨fun i j p q hp => by simp at hp, fun k q hk => by simp at hk⟩
  have hFc : ∀ q, va_A [] H.size q → A q := fun q h => by
    rcases h with ⟨k, e, h⟩ | h
    · simp at h
    · exact hA q (Nat.le_trans hS.1 h)
  refine va_calli (va_runS S (hM H.size) cw ⟨xfb, fun U hU hW => ⟨rfl, by rw [hU], by rw [hU]; exact hnil, va_K.moved hW.alike hK, hnilD⟩⟩ rfl hn hsz hst (lv_room hW) hdg hf) hS (fun q _ h => hFc q h) hFc (fun r' u t H1 locs1 ht hvm hr' hB hz1 hk1 hS1 => ?_)
  obtain ⟨hr1, hr2⟩ := hr'
  subst hr1
  have hkept : va_P D vwCl w H1 := hP.kept (fun k q hk => hk1 q.1 (hP k q hk).lt (fun h => by
    rcases h with ⟨k2, e2, h2⟩ | h2
    · simp at h2
    · exact absurd (hP k q hk).lt (Nat.not_lt.mpr h2)))
  exact kk H1 locs1 hr2 hkept hD hS1
theorem xsNz (hM : CtZ l y ws rm D tys As [] [] r) (S : CallFix p m c cc nL s args Ts own) (cw : va_CN R s args own index y host bytes maxL ret ws rm 0 0 n ∧ (Cond.static y).before args s = true ∧ True) (hK : va_K D vwCl tys s) (hP : va_P D vwCl w H) (hD : va_D A w) (hS : va_S A s.heap H locs) (hA : ∀ q, s.heap.size ≤ q → A q)
    (hn : As.length = n) (hsz : ls.size = nL) (hst : st0 = As.reverse ++ rest) (hW : (rest.map fun v => v.category).sum ≤ 8) (hdg : decode cc pc = .ok (.invokestatic index, 3)) (hf : cells ≤ R.cells ∧ slots ≤ R.slots)
    (kk : ∀ (H : Heap) (locs : List Loc), narrow .boolean (.int r) = .int r → va_P D vwCl w H → va_D A w → va_S A s.heap H locs → W p l e R s m args below meth c H locs cells slots Q (F0 m (pc + 3) ls (.int r :: rest))) : W p l e R s m args below meth c H locs cells slots Q (F0 m pc ls st0) := by
  have hnil : va_P D vwCl [] H := fun k q hk => by cases hk
  have hnilD : va_D (fun _ => True) [] := ⟨fun i j p q hp => by simp at hp, fun k q hk => by simp at hk⟩
  have hFc : ∀ q, va_A [] H.size q → A q := fun q h => by
    rcases h with ⟨k, e, h⟩ | h
    · simp at h
    · exact hA q (Nat.le_trans hS.1 h)
  refine va_calli (va_runSN S (hM H.size) cw ⟨xfb, fun U hU hW => ⟨rfl, by rw [hU], by rw [hU]; exact hnil, va_K.moved hW.alike hK, hnilD⟩⟩ rfl hn hsz hst (lv_room hW) hdg hf) hS (fun q _ h => hFc q h) hFc (fun r' u t H1 locs1 ht hvm hr' hB hz1 hk1 hS1 => ?_)
  obtain ⟨hr1, hr2⟩ := hr'
  subst hr1
  have hkept : va_P D vwCl w H1 := hP.kept (fun k q hk => hk1 q.1 (hP k q hk).lt (fun h => by
    rcases h with ⟨k2, e2, h2⟩ | h2
    · simp at h2
    · exact absurd (hP k q hk).lt (Nat.not_lt.mpr h2)))
  exact kk H1 locs1 hr2 hkept hD hS1
theorem xgv {a : Array Value} (hr : va_Run p l e R s m args below meth c H locs cells slots 0 0 (F0 m pc ls st0) rest (va_Qv (fun (_ : Unit) => True) (fun _ t => va_P D vwCl wc' t.heap ∧ va_K D vwCl tys t ∧ va_D (va_A wc H.size) wc') (va_A wc H.size) a) (va_A wc H.size)) (hP : va_P D vwCl w H) (hD : va_D A w) (hS : va_S A s.heap H locs) (hA : ∀ q, s.heap.size ≤ q → A q)
    (isC isR : List Nat) (hC : isC.map (fun i => w[i]?) = wc.map some) (hR : isR.map (fun i => w[i]?) = wr.map some) (hnR : va_nd isR = true) (hdis : ∀ i ∈ isR, i ∉ isC)
    (kk : ∀ (H : Heap) (locs : List Loc), va_P D vwCl (wr ++ wc') H → va_D A (wr ++ wc') → va_S A s.heap H locs → W p l e R s m args below meth c H locs cells slots Q (F0 m (pc + 3) ls rest)) : W p l e R s m args below meth c H locs cells slots Q (F0 m pc ls st0) := by
  have hFc := va_free (wc := wc) hD hS hA isC hC
  refine va_callv hr hS (fun q _ h => hFc q h) hFc (fun u t H1 locs1 ht hvm hr' hB hz1 hk1 hS1 => ?_)
  obtain ⟨hP1, hK1, hD1⟩ := hB
  rw [ht] at hP1
  obtain ⟨hP', hD'⟩ := va_join (wr := wr) (w1 := wc') hP hD isC isR hC hR hnR hdis hk1 hFc hP1 hD1
  exact kk H1 locs1 hP' hD' hS1
theorem xcv (hM : CtV l y ws rm D tys (.ref b :: As) wc wc') (S : CallFix p m c cc nL s args Ts own) (cw : CallW R s args own C index y bytes maxL ret ws rm 0 0 n) (hK : va_K D vwCl tys s) (hP : va_P D vwCl w H) (hD : va_D A w) (hS : va_S A s.heap H locs) (hA : ∀ q, s.heap.size ≤ q → A q)
    (isC isR : List Nat) (hC : isC.map (fun i => w[i]?) = wc.map some) (hR : isR.map (fun i => w[i]?) = wr.map some) (hnC : va_nd isC = true) (hnR : va_nd isR = true) (hdis : ∀ i ∈ isR, i ∉ isC)
    {ci : Nat} {q : vw_C} {fs : List Value} {q0 : Nat} (hcl : vwCl[ci]? = some q) (hq : q.1 = C) (he : w[q0]? = some (b, .inr (ci, fs)))
    (hn : As.length = n) (hsz : ls.size = nL) (hst : st0 = As.reverse ++ .ref b :: rest) (hW : (rest.map fun v => v.category).sum ≤ 8) (hdg : decode cc pc = .ok (.invokevirtual index, 3)) (hf : cells ≤ R.cells ∧ slots ≤ R.slots)
    (kk : ∀ (H : Heap) (locs : List Loc), va_P D vwCl (wr ++ wc') H → va_D A (wr ++ wc') → va_S A s.heap H locs → W p l e R s m args below meth c H locs cells slots Q (F0 m (pc + 3) ls rest)) : W p l e R s m args below meth c H locs cells slots Q (F0 m pc ls st0) := by
  have hrc := va_recv hK hP hcl he
  rw [hq] at hrc
  refine xgv (va_runV S (hM H.size) cw ⟨xfb, hrc, fun U hU hW => ⟨rfl, by rw [hU], by rw [hU]; exact xsubP hP isC hC, va_K.moved hW.alike hK, (hD.sub isC hnC hC).weaken (fun _ _ _ _ => trivial)⟩⟩ rfl hn hsz hst (lv_room hW) hdg hf) hP hD hS hA isC isR hC hR hnR hdis kk
theorem xcNv (hM : CtV l y ws rm D tys (.ref b :: As) wc wc') (S : CallFix p m c cc nL s args Ts own) (cw : va_CN R s args own index y host bytes maxL ret ws rm 0 0 n ∧ (Cond.instanceMethod y).before args s = true ∧ (Cond.selects C y y).before args s = true) (hK : va_K D vwCl tys s) (hP : va_P D vwCl w H) (hD : va_D A w) (hS : va_S A s.heap H locs) (hA : ∀ q, s.heap.size ≤ q → A q)
    (isC isR : List Nat) (hC : isC.map (fun i => w[i]?) = wc.map some) (hR : isR.map (fun i => w[i]?) = wr.map some) (hnC : va_nd isC = true) (hnR : va_nd isR = true) (hdis : ∀ i ∈ isR, i ∉ isC)
    {ci : Nat} {q : vw_C} {fs : List Value} {q0 : Nat} (hcl : vwCl[ci]? = some q) (hq : q.1 = C) (he : w[q0]? = some (b, .inr (ci, fs)))
    (hn : As.length = n) (hsz : ls.size = nL) (hst : st0 = As.reverse ++ .ref b :: rest) (hW : (rest.map fun v => v.category).sum ≤ 8) (hdg : decode cc pc = .ok (.invokevirtual index, 3)) (hf : cells ≤ R.cells ∧ slots ≤ R.slots)
    (kk : ∀ (H : Heap) (locs : List Loc), va_P D vwCl (wr ++ wc') H → va_D A (wr ++ wc') → va_S A s.heap H locs → W p l e R s m args below meth c H locs cells slots Q (F0 m (pc + 3) ls rest)) : W p l e R s m args below meth c H locs cells slots Q (F0 m pc ls st0) := by
  have hrc := va_recv hK hP hcl he
  rw [hq] at hrc
  refine xgv (va_runVN S (hM H.size) cw ⟨xfb, hrc, fun U hU hW => ⟨rfl, by rw [hU], by rw [hU]; exact xsubP hP isC hC, va_K.moved hW.alike hK, (hD.sub isC hnC hC).weaken (fun _ _ _ _ => trivial)⟩⟩ rfl hn hsz hst (lv_room hW) hdg hf) hP hD hS hA isC isR hC hR hnR hdis kk
theorem xgr {a : Array Value} {qr : Nat} (hr : va_Run p l e R s m args below meth c H locs cells slots 0 0 (F0 m pc ls st0) rest (va_Qr (fun (_ : Unit) => True) (fun _ a t => a = qr ∧ va_P D vwCl wc' t.heap ∧ va_K D vwCl tys t ∧ va_D (va_A wc H.size) wc') (va_A wc H.size) a) (va_A wc H.size)) (hP : va_P D vwCl w H) (hD : va_D A w) (hS : va_S A s.heap H locs) (hA : ∀ q, s.heap.size ≤ q → A q)
    (isC isR : List Nat) (hC : isC.map (fun i => w[i]?) = wc.map some) (hR : isR.map (fun i => w[i]?) = wr.map some) (hnR : va_nd isR = true) (hdis : ∀ i ∈ isR, i ∉ isC)
    (kk : ∀ (H : Heap) (locs : List Loc), va_P D vwCl (wr ++ wc') H → va_D A (wr ++ wc') → va_S A s.heap H locs → W p l e R s m args below meth c H locs cells slots Q (F0 m (pc + 3) ls (.ref qr :: rest))) : W p l e R s m args below meth c H locs cells slots Q (F0 m pc ls st0) := by
  have hFc := va_free (wc := wc) hD hS hA isC hC
  refine va_callr hr hS (fun q _ h => hFc q h) hFc (fun u ra t H1 locs1 ht hvm hr' hB hz1 hk1 hS1 => ?_)
  obtain ⟨hra, hB⟩ := hB
  subst hra
  obtain ⟨hP1, hK1, hD1⟩ := hB
  rw [ht] at hP1
  obtain ⟨hP', hD'⟩ := va_join (wr := wr) (w1 := wc') hP hD isC isR hC hR hnR hdis hk1 hFc hP1 hD1
  exact kk H1 locs1 hP' hD' hS1
theorem xcr {qr : Nat} (hM : CtR l y ws rm D tys (.ref b :: As) wc wc' qr) (S : CallFix p m c cc nL s args Ts own) (cw : CallW R s args own C index y bytes maxL ret ws rm 0 0 n) (hK : va_K D vwCl tys s) (hP : va_P D vwCl w H) (hD : va_D A w) (hS : va_S A s.heap H locs) (hA : ∀ q, s.heap.size ≤ q → A q)
    (isC isR : List Nat) (hC : isC.map (fun i => w[i]?) = wc.map some) (hR : isR.map (fun i => w[i]?) = wr.map some) (hnC : va_nd isC = true) (hnR : va_nd isR = true) (hdis : ∀ i ∈ isR, i ∉ isC)
    {ci : Nat} {q : vw_C} {fs : List Value} {q0 : Nat} (hcl : vwCl[ci]? = some q) (hq : q.1 = C) (he : w[q0]? = some (b, .inr (ci, fs)))
    (hn : As.length = n) (hsz : ls.size = nL) (hst : st0 = As.reverse ++ .ref b :: rest) (hW : (rest.map fun v => v.category).sum ≤ 8) (hdg : decode cc pc = .ok (.invokevirtual index, 3)) (hf : cells ≤ R.cells ∧ slots ≤ R.slots)
    (kk : ∀ (H : Heap) (locs : List Loc), va_P D vwCl (wr ++ wc') H → va_D A (wr ++ wc') → va_S A s.heap H locs → W p l e R s m args below meth c H locs cells slots Q (F0 m (pc + 3) ls (.ref qr :: rest))) : W p l e R s m args below meth c H locs cells slots Q (F0 m pc ls st0) := by
  have hrc := va_recv hK hP hcl he
  rw [hq] at hrc
  refine xgr (va_runV S (hM H.size) cw ⟨xfb, hrc, fun U hU hW => ⟨rfl, by rw [hU], by rw [hU]; exact xsubP hP isC hC, va_K.moved hW.alike hK, (hD.sub isC hnC hC).weaken (fun _ _ _ _ => trivial)⟩⟩ rfl hn hsz hst (lv_room hW) hdg hf) hP hD hS hA isC isR hC hR hnR hdis kk
theorem xcNr {qr : Nat} (hM : CtR l y ws rm D tys (.ref b :: As) wc wc' qr) (S : CallFix p m c cc nL s args Ts own) (cw : va_CN R s args own index y host bytes maxL ret ws rm 0 0 n ∧ (Cond.instanceMethod y).before args s = true ∧ (Cond.selects C y y).before args s = true) (hK : va_K D vwCl tys s) (hP : va_P D vwCl w H) (hD : va_D A w) (hS : va_S A s.heap H locs) (hA : ∀ q, s.heap.size ≤ q → A q)
    (isC isR : List Nat) (hC : isC.map (fun i => w[i]?) = wc.map some) (hR : isR.map (fun i => w[i]?) = wr.map some) (hnC : va_nd isC = true) (hnR : va_nd isR = true) (hdis : ∀ i ∈ isR, i ∉ isC)
    {ci : Nat} {q : vw_C} {fs : List Value} {q0 : Nat} (hcl : vwCl[ci]? = some q) (hq : q.1 = C) (he : w[q0]? = some (b, .inr (ci, fs)))
    (hn : As.length = n) (hsz : ls.size = nL) (hst : st0 = As.reverse ++ .ref b :: rest) (hW : (rest.map fun v => v.category).sum ≤ 8) (hdg : decode cc pc = .ok (.invokevirtual index, 3)) (hf : cells ≤ R.cells ∧ slots ≤ R.slots)
    (kk : ∀ (H : Heap) (locs : List Loc), va_P D vwCl (wr ++ wc') H → va_D A (wr ++ wc') → va_S A s.heap H locs → W p l e R s m args below meth c H locs cells slots Q (F0 m (pc + 3) ls (.ref qr :: rest))) : W p l e R s m args below meth c H locs cells slots Q (F0 m pc ls st0) := by
  have hrc := va_recv hK hP hcl he
  rw [hq] at hrc
  refine xgr (va_runVN S (hM H.size) cw ⟨xfb, hrc, fun U hU hW => ⟨rfl, by rw [hU], by rw [hU]; exact xsubP hP isC hC, va_K.moved hW.alike hK, (hD.sub isC hnC hC).weaken (fun _ _ _ _ => trivial)⟩⟩ rfl hn hsz hst (lv_room hW) hdg hf) hP hD hS hA isC isR hC hR hnR hdis kk
theorem xnv {S : Type} {wn : S → va_W} {mc ms : Nat} (hM : CtN l y ws rm D tys (.ref b :: As) wc wn mc ms) (S0 : CallFix p m c cc nL s args Ts own) (cw : CallB R s args own index y bytes maxL none ws rm mc ms n ∧ y.name = "<init>" ∧ (Cond.instanceMethod y).before args s = true) (hK : va_K D vwCl tys s) (hP : va_P D vwCl w H) (hD : va_D A w) (hS : va_S A s.heap H locs) (hA : ∀ q, s.heap.size ≤ q → A q)
    (isC isR : List Nat) (hC : isC.map (fun i => w[i]?) = wc.map some) (hR : isR.map (fun i => w[i]?) = wr.map some) (hnC : va_nd isC = true) (hnR : va_nd isR = true) (hdis : ∀ i ∈ isR, i ∉ isC)
    (hn : As.length = n) (hsz : ls.size = nL) (hst : st0 = As.reverse ++ .ref b :: rest) (hW : (rest.map fun v => v.category).sum ≤ 8) (hdg : decode cc pc = .ok (.invokespecial index, 3)) (hf : cells + mc ≤ R.cells ∧ slots + ms ≤ R.slots)
    (kk : ∀ (u : S) (H : Heap) (locs : List Loc), va_P D vwCl (wr ++ wn u) H → va_D A (wr ++ wn u) → va_S A s.heap H locs → W p l e R s m args below meth c H locs (cells + mc) (slots + ms) Q (F0 m (pc + 3) ls rest)) : W p l e R s m args below meth c H locs cells slots Q (F0 m pc ls st0) := by
  have hFc := va_free (wc := wc) hD hS hA isC hC
  refine va_callv (va_runI S0 (hM H.size) cw ⟨xfb, fun U hU hW => ⟨rfl, by rw [hU], by rw [hU]; exact xsubP hP isC hC, va_K.moved hW.alike hK, (hD.sub isC hnC hC).weaken (fun _ _ _ _ => trivial)⟩⟩ rfl hn hsz hst (lv_room hW) hdg hf) hS (fun q _ h => hFc q h) hFc (fun u t H1 locs1 ht hvm hr' hB hz1 hk1 hS1 => ?_)
  obtain ⟨hP1, hK1, hD1⟩ := hB
  rw [ht] at hP1
  obtain ⟨hP', hD'⟩ := va_join (wr := wr) (w1 := wn u) hP hD isC isR hC hR hnR hdis hk1 hFc hP1 hD1
  exact kk u H1 locs1 hP' hD' hS1
theorem xnewa {cI : ClassId} (hexec : p.tables.exec = Jvm.exec) (hb : c.code = cc) (harr : (Cond.arrayClass .int).before args s = true) (hK : va_K D vwCl [(cI, .int)] s) (hP : va_P D vwCl w H) (hD : va_D A w) (hS : va_S A s.heap H locs) (hA : ∀ q, s.heap.size ≤ q → A q)
    {k : Int32} {N : Nat} (hk : ¬ k < 0) (hN : k.toNatClampNeg = N) (hbytes : N * componentBytes .int ≤ 536870912) (hcells : cells + 1 ≤ R.cells) (hslots : slots + N ≤ R.slots) (hdg : decode cc pc = .ok (.newarray .int, 2))
    (kk : ∀ (q : Nat) (H : Heap), va_P D vwCl (w ++ [(q, .inl (cI, N, .inl (fun _ => 0)))]) H → va_D A (w ++ [(q, .inl (cI, N, .inl (fun _ => 0)))]) → va_S A s.heap H locs → W p l e R s m args below meth c H locs (cells + 1) (slots + N) Q (F0 m (pc + 2) ls (.ref q :: rest))) : W p l e R s m args below meth c H locs cells slots Q (F0 m pc ls (.int k :: rest)) := by
  refine va_newa (atype := .int) (a0 := (N, .inl (fun _ => 0))) hexec hb harr rfl hK hP hD hS hA (fun _ => rfl) hk hN hbytes hcells hslots hdg (fun q cA H1 hK1 hP1 hD1 hS1 => ?_)
  have e1 : s.vm.findClass ("[" ++ FieldType.int.toString) = some cI := (hK1.2 0 (cI, .int) rfl).2
  have e2 : s.vm.findClass ("[" ++ FieldType.int.toString) = some cA := (hK1.2 1 (cA, .int) rfl).2
  have e3 : cI = cA := Option.some.inj (e1.symm.trans e2)
  subst e3
  exact kk q H1 hP1 hD1 hS1

end XCALL
end
