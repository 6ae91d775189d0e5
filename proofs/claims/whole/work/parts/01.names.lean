-- the words that every state of a run keeps
def lw_g : List Cond := lw_tbl.filter goodWord
abbrev R_A : String := "AppletFirewall"
def F_A : u_T := fun k => match k with
  | 0 => ("AppletFirewall", "memory", "LAppletFirewall$Memory;", true)
  | 1 => ("AppletFirewall", "input", "LAppletFirewall$Input;", true)
  | 2 => ("AppletFirewall", "answer", "[I", true)
  | 3 => ("AppletFirewall", "grantRow", "[I", true)
  | 4 => ("AppletFirewall", "answerLength", "I", false)
  | 5 => ("AppletFirewall", "on", "Z", false)
  | 6 => ("AppletFirewall", "selected", "I", false)
  | 7 => ("AppletFirewall", "verified", "Z", false)
  | _ => ("AppletFirewall", "open", "Z", false)
def t_A : Nat → FieldType := fun k => match k with
  | 0 => .object "AppletFirewall$Memory"
  | 1 => .object "AppletFirewall$Input"
  | 2 => .array .int
  | 3 => .array .int
  | 4 => .int
  | 5 => .boolean
  | 6 => .int
  | 7 => .boolean
  | _ => .boolean
theorem n_A : ∀ a, a < 9 → ∀ b, b < 9 → a ≠ b → (F_A a).2.1 ≠ (F_A b).2.1 := by decide +kernel
theorem t_A_ok : ∀ k, k < 9 → parseFieldDescriptor (F_A k).2.2.1 = some (t_A k) := by decide +kernel
theorem in_A : ∀ w ∈ u_ws R_A F_A 9, w ∈ lw_g := by decide +kernel
abbrev R_M : String := "AppletFirewall$Memory"
def F_M : u_T := fun k => match k with
  | 0 => ("AppletFirewall$Memory", "cells", "[I", true)
  | 1 => ("AppletFirewall$Memory", "written", "I", false)
  | 2 => ("AppletFirewall$Memory", "failed", "I", false)
  | _ => ("AppletFirewall$Memory", "fuse", "I", false)
def t_M : Nat → FieldType := fun k => match k with
  | 0 => .array .int
  | 1 => .int
  | 2 => .int
  | _ => .int
theorem n_M : ∀ a, a < 4 → ∀ b, b < 4 → a ≠ b → (F_M a).2.1 ≠ (F_M b).2.1 := by decide +kernel
theorem t_M_ok : ∀ k, k < 4 → parseFieldDescriptor (F_M k).2.2.1 = some (t_M k) := by decide +kernel
theorem in_M : ∀ w ∈ u_ws R_M F_M 4, w ∈ lw_g := by decide +kernel
abbrev R_I : String := "AppletFirewall$Input"
def F_I : u_T := fun k => match k with
  | 0 => ("AppletFirewall$Input", "bytes", "[I", true)
  | _ => ("AppletFirewall$Input", "count", "I", false)
def t_I : Nat → FieldType := fun k => match k with
  | 0 => .array .int
  | _ => .int
theorem n_I : ∀ a, a < 2 → ∀ b, b < 2 → a ≠ b → (F_I a).2.1 ≠ (F_I b).2.1 := by decide +kernel
theorem t_I_ok : ∀ k, k < 2 → parseFieldDescriptor (F_I k).2.2.1 = some (t_I k) := by decide +kernel
theorem in_I : ∀ w ∈ u_ws R_I F_I 2, w ∈ lw_g := by decide +kernel
abbrev R_Rf : String := "AppletFirewallModel"
def F_Rf : u_T := fun k => match k with
  | 0 => ("AppletFirewallModel", "memory", "[I", true)
  | 1 => ("AppletFirewallModel", "before", "[I", true)
  | 2 => ("AppletFirewallModel", "left", "[I", true)
  | 3 => ("AppletFirewallModel", "count", "I", false)
  | 4 => ("AppletFirewallModel", "done", "I", false)
  | 5 => ("AppletFirewallModel", "failed", "I", false)
  | 6 => ("AppletFirewallModel", "armed", "Z", false)
  | 7 => ("AppletFirewallModel", "fuse", "I", false)
  | 8 => ("AppletFirewallModel", "on", "Z", false)
  | 9 => ("AppletFirewallModel", "selected", "I", false)
  | 10 => ("AppletFirewallModel", "verified", "Z", false)
  | 11 => ("AppletFirewallModel", "open", "Z", false)
  | 12 => ("AppletFirewallModel", "in", "[I", true)
  | 13 => ("AppletFirewallModel", "size", "I", false)
  | 14 => ("AppletFirewallModel", "out", "[I", true)
  | _ => ("AppletFirewallModel", "told", "I", false)
def t_Rf : Nat → FieldType := fun k => match k with
  | 0 => .array .int
  | 1 => .array .int
  | 2 => .array .int
  | 3 => .int
  | 4 => .int
  | 5 => .int
  | 6 => .boolean
  | 7 => .int
  | 8 => .boolean
  | 9 => .int
  | 10 => .boolean
  | 11 => .boolean
  | 12 => .array .int
  | 13 => .int
  | 14 => .array .int
  | _ => .int
theorem n_Rf : ∀ a, a < 16 → ∀ b, b < 16 → a ≠ b → (F_Rf a).2.1 ≠ (F_Rf b).2.1 := by decide +kernel
theorem t_Rf_ok : ∀ k, k < 16 → parseFieldDescriptor (F_Rf k).2.2.1 = some (t_Rf k) := by decide +kernel
theorem in_Rf : ∀ w ∈ u_ws R_Rf F_Rf 16, w ∈ lw_g := by decide +kernel
abbrev R_E : String := "AppletFirewall$Instruction"
abbrev vwCl : List vw_C := [(R_A, F_A, 9), (R_M, F_M, 4), (R_I, F_I, 2), (R_Rf, F_Rf, 16)]
abbrev b_M_init : ByteArray := prog_5_method_1_code
abbrev y_M_init : MethodName := ⟨"AppletFirewall$Memory", "<init>", "()V"⟩
abbrev w_M_init : List Cond := .code y_M_init b_M_init 2 none :: lw_g
abbrev b_M_at : ByteArray := prog_5_method_2_code
abbrev y_M_at : MethodName := ⟨"AppletFirewall$Memory", "at", "(I)I"⟩
abbrev w_M_at : List Cond := .code y_M_at b_M_at 2 (some .int) :: lw_g
abbrev b_M_count : ByteArray := prog_5_method_3_code
abbrev y_M_count : MethodName := ⟨"AppletFirewall$Memory", "count", "()I"⟩
abbrev w_M_count : List Cond := .code y_M_count b_M_count 1 (some .int) :: lw_g
abbrev b_M_written : ByteArray := prog_5_method_4_code
abbrev y_M_written : MethodName := ⟨"AppletFirewall$Memory", "written", "()I"⟩
abbrev w_M_written : List Cond := .code y_M_written b_M_written 1 (some .int) :: lw_g
abbrev b_M_failed : ByteArray := prog_5_method_5_code
abbrev y_M_failed : MethodName := ⟨"AppletFirewall$Memory", "failed", "()I"⟩
abbrev w_M_failed : List Cond := .code y_M_failed b_M_failed 1 (some .int) :: lw_g
abbrev b_M_arm : ByteArray := prog_5_method_6_code
abbrev y_M_arm : MethodName := ⟨"AppletFirewall$Memory", "arm", "(I)V"⟩
abbrev w_M_arm : List Cond := .code y_M_arm b_M_arm 2 none :: lw_g
abbrev b_M_write : ByteArray := prog_5_method_7_code
abbrev y_M_write : MethodName := ⟨"AppletFirewall$Memory", "write", "(II)Z"⟩
abbrev w_M_write : List Cond := .code y_M_write b_M_write 3 (some .boolean) :: lw_g
abbrev b_M_change : ByteArray := prog_5_method_8_code
abbrev y_M_change : MethodName := ⟨"AppletFirewall$Memory", "change", "(II)Z"⟩
abbrev w_M_change : List Cond := .code y_M_change b_M_change 4 (some .boolean) :: lw_g
abbrev b_M_settle : ByteArray := prog_5_method_10_code
abbrev y_M_settle : MethodName := ⟨"AppletFirewall$Memory", "settle", "()Z"⟩
abbrev w_M_settle : List Cond := .code y_M_settle b_M_settle 1 (some .boolean) :: lw_g
abbrev b_M_undo : ByteArray := prog_5_method_9_code
abbrev y_M_undo : MethodName := ⟨"AppletFirewall$Memory", "undo", "()Z"⟩
abbrev w_M_undo : List Cond := .code y_M_undo b_M_undo 3 (some .boolean) :: lw_g
abbrev b_I_init : ByteArray := prog_3_method_1_code
abbrev y_I_init : MethodName := ⟨"AppletFirewall$Input", "<init>", "()V"⟩
abbrev w_I_init : List Cond := .code y_I_init b_I_init 1 none :: lw_g
abbrev b_I_append : ByteArray := prog_3_method_2_code
abbrev y_I_append : MethodName := ⟨"AppletFirewall$Input", "append", "(JI)Z"⟩
abbrev w_I_append : List Cond := .code y_I_append b_I_append 5 (some .boolean) :: lw_g
abbrev b_I_clear : ByteArray := prog_3_method_3_code
abbrev y_I_clear : MethodName := ⟨"AppletFirewall$Input", "clear", "()V"⟩
abbrev w_I_clear : List Cond := .code y_I_clear b_I_clear 1 none :: lw_g
abbrev b_I_size : ByteArray := prog_3_method_4_code
abbrev y_I_size : MethodName := ⟨"AppletFirewall$Input", "size", "()I"⟩
abbrev w_I_size : List Cond := .code y_I_size b_I_size 1 (some .int) :: lw_g
abbrev b_I_lc : ByteArray := prog_3_method_10_code
abbrev y_I_lc : MethodName := ⟨"AppletFirewall$Input", "lc", "()I"⟩
abbrev w_I_lc : List Cond := .code y_I_lc b_I_lc 1 (some .int) :: lw_g
abbrev b_I_shape : ByteArray := prog_3_method_5_code
abbrev y_I_shape : MethodName := ⟨"AppletFirewall$Input", "shape", "()I"⟩
abbrev w_I_shape : List Cond := .code y_I_shape b_I_shape 1 (some .int) :: lw_g
abbrev b_I_cardClass : ByteArray := prog_3_method_6_code
abbrev y_I_cardClass : MethodName := ⟨"AppletFirewall$Input", "cardClass", "()I"⟩
abbrev w_I_cardClass : List Cond := .code y_I_cardClass b_I_cardClass 1 (some .int) :: lw_g
abbrev b_I_instruction : ByteArray := prog_3_method_7_code
abbrev y_I_instruction : MethodName := ⟨"AppletFirewall$Input", "instruction", "()I"⟩
abbrev w_I_instruction : List Cond := .code y_I_instruction b_I_instruction 1 (some .int) :: lw_g
abbrev b_I_p1 : ByteArray := prog_3_method_8_code
abbrev y_I_p1 : MethodName := ⟨"AppletFirewall$Input", "p1", "()I"⟩
abbrev w_I_p1 : List Cond := .code y_I_p1 b_I_p1 1 (some .int) :: lw_g
abbrev b_I_p2 : ByteArray := prog_3_method_9_code
abbrev y_I_p2 : MethodName := ⟨"AppletFirewall$Input", "p2", "()I"⟩
abbrev w_I_p2 : List Cond := .code y_I_p2 b_I_p2 1 (some .int) :: lw_g
abbrev b_I_le : ByteArray := prog_3_method_11_code
abbrev y_I_le : MethodName := ⟨"AppletFirewall$Input", "le", "()I"⟩
abbrev w_I_le : List Cond := .code y_I_le b_I_le 1 (some .int) :: lw_g
abbrev b_I_payload : ByteArray := prog_3_method_12_code
abbrev y_I_payload : MethodName := ⟨"AppletFirewall$Input", "payload", "(I)I"⟩
abbrev w_I_payload : List Cond := .code y_I_payload b_I_payload 2 (some .int) :: lw_g
abbrev b_I_row : ByteArray := prog_3_method_13_code
abbrev y_I_row : MethodName := ⟨"AppletFirewall$Input", "row", "()[I"⟩
abbrev w_I_row : List Cond := .code y_I_row b_I_row 1 (some (.array .int)) :: lw_g
abbrev b_A_init : ByteArray := prog_1_method_1_code
abbrev y_A_init : MethodName := ⟨"AppletFirewall", "<init>", "()V"⟩
abbrev w_A_init : List Cond := .code y_A_init b_A_init 1 none :: lw_g
abbrev b_A_doneIf : ByteArray := prog_1_method_34_code
abbrev y_A_doneIf : MethodName := ⟨"AppletFirewall", "doneIf", "(Z)I"⟩
abbrev w_A_doneIf : List Cond := .code y_A_doneIf b_A_doneIf 1 (some .int) :: lw_g
abbrev b_A_isApplet : ByteArray := prog_1_method_39_code
abbrev y_A_isApplet : MethodName := ⟨"AppletFirewall", "isApplet", "(I)Z"⟩
abbrev w_A_isApplet : List Cond := .code y_A_isApplet b_A_isApplet 1 (some .boolean) :: lw_g
abbrev b_A_dataPlace : ByteArray := prog_1_method_40_code
abbrev y_A_dataPlace : MethodName := ⟨"AppletFirewall", "dataPlace", "(II)I"⟩
abbrev w_A_dataPlace : List Cond := .code y_A_dataPlace b_A_dataPlace 2 (some .int) :: lw_g
abbrev b_A_secretPlace : ByteArray := prog_1_method_41_code
abbrev y_A_secretPlace : MethodName := ⟨"AppletFirewall", "secretPlace", "(I)I"⟩
abbrev w_A_secretPlace : List Cond := .code y_A_secretPlace b_A_secretPlace 1 (some .int) :: lw_g
abbrev b_A_triesPlace : ByteArray := prog_1_method_42_code
abbrev y_A_triesPlace : MethodName := ⟨"AppletFirewall", "triesPlace", "(I)I"⟩
abbrev w_A_triesPlace : List Cond := .code y_A_triesPlace b_A_triesPlace 1 (some .int) :: lw_g
abbrev b_A_sharePlace : ByteArray := prog_1_method_43_code
abbrev y_A_sharePlace : MethodName := ⟨"AppletFirewall", "sharePlace", "(I)I"⟩
abbrev w_A_sharePlace : List Cond := .code y_A_sharePlace b_A_sharePlace 1 (some .int) :: lw_g
abbrev b_A_put : ByteArray := prog_1_method_2_code
abbrev y_A_put : MethodName := ⟨"AppletFirewall", "put", "(JI)Z"⟩
abbrev w_A_put : List Cond := .code y_A_put b_A_put 4 (some .boolean) :: lw_g
abbrev b_A_waiting : ByteArray := prog_1_method_4_code
abbrev y_A_waiting : MethodName := ⟨"AppletFirewall", "waiting", "()I"⟩
abbrev w_A_waiting : List Cond := .code y_A_waiting b_A_waiting 1 (some .int) :: lw_g
abbrev b_A_length : ByteArray := prog_1_method_5_code
abbrev y_A_length : MethodName := ⟨"AppletFirewall", "length", "()I"⟩
abbrev w_A_length : List Cond := .code y_A_length b_A_length 1 (some .int) :: lw_g
abbrev b_A_response : ByteArray := prog_1_method_6_code
abbrev y_A_response : MethodName := ⟨"AppletFirewall", "response", "(I)I"⟩
abbrev w_A_response : List Cond := .code y_A_response b_A_response 2 (some .int) :: lw_g
abbrev b_A_tear : ByteArray := prog_1_method_7_code
abbrev y_A_tear : MethodName := ⟨"AppletFirewall", "tear", "(I)Z"⟩
abbrev w_A_tear : List Cond := .code y_A_tear b_A_tear 2 (some .boolean) :: lw_g
abbrev b_A_switchOff : ByteArray := prog_1_method_16_code
abbrev y_A_switchOff : MethodName := ⟨"AppletFirewall", "switchOff", "()V"⟩
abbrev w_A_switchOff : List Cond := .code y_A_switchOff b_A_switchOff 1 none :: lw_g
abbrev b_A_reset : ByteArray := prog_1_method_8_code
abbrev y_A_reset : MethodName := ⟨"AppletFirewall", "reset", "()I"⟩
abbrev w_A_reset : List Cond := .code y_A_reset b_A_reset 2 (some .int) :: lw_g
abbrev b_A_writes : ByteArray := prog_1_method_9_code
abbrev y_A_writes : MethodName := ⟨"AppletFirewall", "writes", "()I"⟩
abbrev w_A_writes : List Cond := .code y_A_writes b_A_writes 1 (some .int) :: lw_g
abbrev b_A_failures : ByteArray := prog_1_method_10_code
abbrev y_A_failures : MethodName := ⟨"AppletFirewall", "failures", "()I"⟩
abbrev w_A_failures : List Cond := .code y_A_failures b_A_failures 1 (some .int) :: lw_g
abbrev b_A_data : ByteArray := prog_1_method_11_code
abbrev y_A_data : MethodName := ⟨"AppletFirewall", "data", "(II)I"⟩
abbrev w_A_data : List Cond := .code y_A_data b_A_data 3 (some .int) :: lw_g
abbrev b_A_tries : ByteArray := prog_1_method_12_code
abbrev y_A_tries : MethodName := ⟨"AppletFirewall", "tries", "(I)I"⟩
abbrev w_A_tries : List Cond := .code y_A_tries b_A_tries 2 (some .int) :: lw_g
abbrev b_A_shareByte : ByteArray := prog_1_method_37_code
abbrev y_A_shareByte : MethodName := ⟨"AppletFirewall", "shareByte", "(II)I"⟩
abbrev w_A_shareByte : List Cond := .code y_A_shareByte b_A_shareByte 3 (some .int) :: lw_g
abbrev b_A_share : ByteArray := prog_1_method_13_code
abbrev y_A_share : MethodName := ⟨"AppletFirewall", "share", "(I)I"⟩
abbrev w_A_share : List Cond := .code y_A_share b_A_share 4 (some .int) :: lw_g
abbrev b_A_pending : ByteArray := prog_1_method_14_code
abbrev y_A_pending : MethodName := ⟨"AppletFirewall", "pending", "()I"⟩
abbrev w_A_pending : List Cond := .code y_A_pending b_A_pending 1 (some .int) :: lw_g
abbrev b_A_session : ByteArray := prog_1_method_15_code
abbrev y_A_session : MethodName := ⟨"AppletFirewall", "session", "()I"⟩
abbrev w_A_session : List Cond := .code y_A_session b_A_session 1 (some .int) :: lw_g
abbrev b_A_ownerOf : ByteArray := prog_1_method_35_code
abbrev y_A_ownerOf : MethodName := ⟨"AppletFirewall", "ownerOf", "(I)I"⟩
abbrev w_A_ownerOf : List Cond := .code y_A_ownerOf b_A_ownerOf 3 (some .int) :: lw_g
abbrev b_A_clientOf : ByteArray := prog_1_method_36_code
abbrev y_A_clientOf : MethodName := ⟨"AppletFirewall", "clientOf", "(I)I"⟩
abbrev w_A_clientOf : List Cond := .code y_A_clientOf b_A_clientOf 3 (some .int) :: lw_g
abbrev b_A_sharedPlace : ByteArray := prog_1_method_38_code
abbrev y_A_sharedPlace : MethodName := ⟨"AppletFirewall", "sharedPlace", "(II)I"⟩
abbrev w_A_sharedPlace : List Cond := .code y_A_sharedPlace b_A_sharedPlace 3 (some .int) :: lw_g
abbrev b_A_respond : ByteArray := prog_1_method_31_code
abbrev y_A_respond : MethodName := ⟨"AppletFirewall", "respond", "(II)I"⟩
abbrev w_A_respond : List Cond := .code y_A_respond b_A_respond 4 (some .int) :: lw_g
abbrev b_A_store : ByteArray := prog_1_method_33_code
abbrev y_A_store : MethodName := ⟨"AppletFirewall", "store", "(I[III)I"⟩
abbrev w_A_store : List Cond := .code y_A_store b_A_store 6 (some .int) :: lw_g
abbrev b_A_storePayload : ByteArray := prog_1_method_32_code
abbrev y_A_storePayload : MethodName := ⟨"AppletFirewall", "storePayload", "(I)I"⟩
abbrev w_A_storePayload : List Cond := .code y_A_storePayload b_A_storePayload 2 (some .int) :: lw_g
abbrev b_A_select : ByteArray := prog_1_method_19_code
abbrev y_A_select : MethodName := ⟨"AppletFirewall", "select", "()I"⟩
abbrev w_A_select : List Cond := .code y_A_select b_A_select 2 (some .int) :: lw_g
abbrev b_A_payloadIsSecret : ByteArray := prog_1_method_21_code
abbrev y_A_payloadIsSecret : MethodName := ⟨"AppletFirewall", "payloadIsSecret", "()Z"⟩
abbrev w_A_payloadIsSecret : List Cond := .code y_A_payloadIsSecret b_A_payloadIsSecret 3 (some .boolean) :: lw_g
abbrev b_A_verify : ByteArray := prog_1_method_20_code
abbrev y_A_verify : MethodName := ⟨"AppletFirewall", "verify", "()I"⟩
abbrev w_A_verify : List Cond := .code y_A_verify b_A_verify 3 (some .int) :: lw_g
abbrev b_A_unblock : ByteArray := prog_1_method_22_code
abbrev y_A_unblock : MethodName := ⟨"AppletFirewall", "unblock", "()I"⟩
abbrev w_A_unblock : List Cond := .code y_A_unblock b_A_unblock 1 (some .int) :: lw_g
abbrev b_A_read : ByteArray := prog_1_method_23_code
abbrev y_A_read : MethodName := ⟨"AppletFirewall", "read", "()I"⟩
abbrev w_A_read : List Cond := .code y_A_read b_A_read 1 (some .int) :: lw_g
abbrev b_A_update : ByteArray := prog_1_method_24_code
abbrev y_A_update : MethodName := ⟨"AppletFirewall", "update", "()I"⟩
abbrev w_A_update : List Cond := .code y_A_update b_A_update 1 (some .int) :: lw_g
abbrev b_A_begin : ByteArray := prog_1_method_25_code
abbrev y_A_begin : MethodName := ⟨"AppletFirewall", "begin", "()I"⟩
abbrev w_A_begin : List Cond := .code y_A_begin b_A_begin 1 (some .int) :: lw_g
abbrev b_A_end : ByteArray := prog_1_method_26_code
abbrev y_A_end : MethodName := ⟨"AppletFirewall", "end", "()I"⟩
abbrev w_A_end : List Cond := .code y_A_end b_A_end 2 (some .int) :: lw_g
abbrev b_A_grant : ByteArray := prog_1_method_27_code
abbrev y_A_grant : MethodName := ⟨"AppletFirewall", "grant", "()I"⟩
abbrev w_A_grant : List Cond := .code y_A_grant b_A_grant 6 (some .int) :: lw_g
abbrev b_A_revoke : ByteArray := prog_1_method_28_code
abbrev y_A_revoke : MethodName := ⟨"AppletFirewall", "revoke", "()I"⟩
abbrev w_A_revoke : List Cond := .code y_A_revoke b_A_revoke 2 (some .int) :: lw_g
abbrev b_A_readShared : ByteArray := prog_1_method_29_code
abbrev y_A_readShared : MethodName := ⟨"AppletFirewall", "readShared", "()I"⟩
abbrev w_A_readShared : List Cond := .code y_A_readShared b_A_readShared 2 (some .int) :: lw_g
abbrev b_A_updateShared : ByteArray := prog_1_method_30_code
abbrev y_A_updateShared : MethodName := ⟨"AppletFirewall", "updateShared", "()I"⟩
abbrev w_A_updateShared : List Cond := .code y_A_updateShared b_A_updateShared 2 (some .int) :: lw_g
abbrev b_E_withCode : ByteArray := prog_4_method_4_code
abbrev y_E_withCode : MethodName := ⟨"AppletFirewall$Instruction", "withCode", "(I)LAppletFirewall$Instruction;"⟩
abbrev w_E_withCode : List Cond := .code y_E_withCode b_E_withCode 2 (some (.object "AppletFirewall$Instruction")) :: lw_g
abbrev b_E_takesForm : ByteArray := prog_4_method_5_code
abbrev y_E_takesForm : MethodName := ⟨"AppletFirewall$Instruction", "takesForm", "(II)Z"⟩
abbrev w_E_takesForm : List Cond := .code y_E_takesForm b_E_takesForm 3 (some .boolean) :: lw_g
abbrev b_E_takesParameters : ByteArray := prog_4_method_6_code
abbrev y_E_takesParameters : MethodName := ⟨"AppletFirewall$Instruction", "takesParameters", "(II)Z"⟩
abbrev w_E_takesParameters : List Cond := .code y_E_takesParameters b_E_takesParameters 3 (some .boolean) :: lw_g
abbrev b_E_isGuarded : ByteArray := prog_4_method_7_code
abbrev y_E_isGuarded : MethodName := ⟨"AppletFirewall$Instruction", "isGuarded", "()Z"⟩
abbrev w_E_isGuarded : List Cond := .code y_E_isGuarded b_E_isGuarded 1 (some .boolean) :: lw_g
abbrev b_A_admit : ByteArray := prog_1_method_17_code
abbrev y_A_admit : MethodName := ⟨"AppletFirewall", nm17, "(LAppletFirewall$Instruction;)I"⟩
abbrev w_A_admit : List Cond := .code y_A_admit b_A_admit 2 (some .int) :: lw_g
abbrev b_A_perform : ByteArray := prog_1_method_18_code
abbrev y_A_perform : MethodName := ⟨"AppletFirewall", "perform", "(LAppletFirewall$Instruction;)I"⟩
abbrev w_A_perform : List Cond := .code y_A_perform b_A_perform 2 (some .int) :: lw_g
abbrev b_A_run : ByteArray := prog_1_method_3_code
abbrev y_A_run : MethodName := ⟨"AppletFirewall", "run", "()I"⟩
abbrev w_A_run : List Cond := .code y_A_run b_A_run 3 (some .int) :: lw_g
abbrev b_Rf_init : ByteArray := prog_7_method_1_code
abbrev y_Rf_init : MethodName := ⟨"AppletFirewallModel", "<init>", "()V"⟩
abbrev w_Rf_init : List Cond := .code y_Rf_init b_Rf_init 2 none :: lw_g
abbrev b_Rf_forget : ByteArray := prog_7_method_2_code
abbrev y_Rf_forget : MethodName := ⟨"AppletFirewallModel", "forget", "()V"⟩
abbrev w_Rf_forget : List Cond := .code y_Rf_forget b_Rf_forget 1 none :: lw_g
abbrev b_Rf_write : ByteArray := prog_7_method_3_code
abbrev y_Rf_write : MethodName := ⟨"AppletFirewallModel", "write", "()Z"⟩
abbrev w_Rf_write : List Cond := .code y_Rf_write b_Rf_write 1 (some .boolean) :: lw_g
abbrev b_Rf_several : ByteArray := prog_7_method_4_code
abbrev y_Rf_several : MethodName := ⟨"AppletFirewallModel", "several", "(I)Z"⟩
abbrev w_Rf_several : List Cond := .code y_Rf_several b_Rf_several 3 (some .boolean) :: lw_g
abbrev b_Rf_change : ByteArray := prog_7_method_5_code
abbrev y_Rf_change : MethodName := ⟨"AppletFirewallModel", "change", "(II)Z"⟩
abbrev w_Rf_change : List Cond := .code y_Rf_change b_Rf_change 4 (some .boolean) :: lw_g
abbrev b_Rf_settle : ByteArray := prog_7_method_6_code
abbrev y_Rf_settle : MethodName := ⟨"AppletFirewallModel", "settle", "()Z"⟩
abbrev w_Rf_settle : List Cond := .code y_Rf_settle b_Rf_settle 1 (some .boolean) :: lw_g
abbrev b_Rf_undo : ByteArray := prog_7_method_7_code
abbrev y_Rf_undo : MethodName := ⟨"AppletFirewallModel", "undo", "()Z"⟩
abbrev w_Rf_undo : List Cond := .code y_Rf_undo b_Rf_undo 2 (some .boolean) :: lw_g
abbrev b_Rf_tear : ByteArray := prog_7_method_8_code
abbrev y_Rf_tear : MethodName := ⟨"AppletFirewallModel", "tear", "(I)Z"⟩
abbrev w_Rf_tear : List Cond := .code y_Rf_tear b_Rf_tear 2 (some .boolean) :: lw_g
abbrev b_Rf_reset : ByteArray := prog_7_method_9_code
abbrev y_Rf_reset : MethodName := ⟨"AppletFirewallModel", "reset", "()I"⟩
abbrev w_Rf_reset : List Cond := .code y_Rf_reset b_Rf_reset 2 (some .int) :: lw_g
abbrev b_Rf_put : ByteArray := prog_7_method_10_code
abbrev y_Rf_put : MethodName := ⟨"AppletFirewallModel", "put", "(JI)Z"⟩
abbrev w_Rf_put : List Cond := .code y_Rf_put b_Rf_put 5 (some .boolean) :: lw_g
abbrev b_Rf_shape : ByteArray := prog_7_method_11_code
abbrev y_Rf_shape : MethodName := ⟨"AppletFirewallModel", "shape", "()I"⟩
abbrev w_Rf_shape : List Cond := .code y_Rf_shape b_Rf_shape 2 (some .int) :: lw_g
abbrev b_Rf_starred : ByteArray := prog_7_method_12_code
abbrev y_Rf_starred : MethodName := ⟨"AppletFirewallModel", "starred", "(I)Z"⟩
abbrev w_Rf_starred : List Cond := .code y_Rf_starred b_Rf_starred 1 (some .boolean) :: lw_g
abbrev b_Rf_known : ByteArray := prog_7_method_13_code
abbrev y_Rf_known : MethodName := ⟨"AppletFirewallModel", "known", "(I)Z"⟩
abbrev w_Rf_known : List Cond := .code y_Rf_known b_Rf_known 1 (some .boolean) :: lw_g
abbrev b_Rf_shapeOf : ByteArray := prog_7_method_14_code
abbrev y_Rf_shapeOf : MethodName := ⟨"AppletFirewallModel", "shapeOf", "(I)I"⟩
abbrev w_Rf_shapeOf : List Cond := .code y_Rf_shapeOf b_Rf_shapeOf 1 (some .int) :: lw_g
abbrev b_Rf_lengthWrong : ByteArray := prog_7_method_15_code
abbrev y_Rf_lengthWrong : MethodName := ⟨"AppletFirewallModel", "lengthWrong", "(I)Z"⟩
abbrev w_Rf_lengthWrong : List Cond := .code y_Rf_lengthWrong b_Rf_lengthWrong 3 (some .boolean) :: lw_g
abbrev b_Rf_placesWrong : ByteArray := prog_7_method_16_code
abbrev y_Rf_placesWrong : MethodName := ⟨"AppletFirewallModel", "placesWrong", "(I)Z"⟩
abbrev w_Rf_placesWrong : List Cond := .code y_Rf_placesWrong b_Rf_placesWrong 4 (some .boolean) :: lw_g
abbrev b_Rf_refuse : ByteArray := prog_7_method_17_code
abbrev y_Rf_refuse : MethodName := ⟨"AppletFirewallModel", "refuse", "()I"⟩
abbrev w_Rf_refuse : List Cond := .code y_Rf_refuse b_Rf_refuse 3 (some .int) :: lw_g
abbrev b_Rf_store : ByteArray := prog_7_method_20_code
abbrev y_Rf_store : MethodName := ⟨"AppletFirewallModel", "store", "(II)I"⟩
abbrev w_Rf_store : List Cond := .code y_Rf_store b_Rf_store 4 (some .int) :: lw_g
abbrev b_Rf_select : ByteArray := prog_7_method_21_code
abbrev y_Rf_select : MethodName := ⟨"AppletFirewallModel", "select", "(I)I"⟩
abbrev w_Rf_select : List Cond := .code y_Rf_select b_Rf_select 2 (some .int) :: lw_g
abbrev b_Rf_verify : ByteArray := prog_7_method_22_code
abbrev y_Rf_verify : MethodName := ⟨"AppletFirewallModel", "verify", "()I"⟩
abbrev w_Rf_verify : List Cond := .code y_Rf_verify b_Rf_verify 2 (some .int) :: lw_g
abbrev b_Rf_unblock : ByteArray := prog_7_method_23_code
abbrev y_Rf_unblock : MethodName := ⟨"AppletFirewallModel", "unblock", "(I)I"⟩
abbrev w_Rf_unblock : List Cond := .code y_Rf_unblock b_Rf_unblock 2 (some .int) :: lw_g
abbrev b_Rf_begin : ByteArray := prog_7_method_24_code
abbrev y_Rf_begin : MethodName := ⟨"AppletFirewallModel", "begin", "()I"⟩
abbrev w_Rf_begin : List Cond := .code y_Rf_begin b_Rf_begin 1 (some .int) :: lw_g
abbrev b_Rf_end : ByteArray := prog_7_method_25_code
abbrev y_Rf_end : MethodName := ⟨"AppletFirewallModel", "end", "(I)I"⟩
abbrev w_Rf_end : List Cond := .code y_Rf_end b_Rf_end 3 (some .int) :: lw_g
abbrev b_Rf_read : ByteArray := prog_7_method_26_code
abbrev y_Rf_read : MethodName := ⟨"AppletFirewallModel", "read", "(III)I"⟩
abbrev w_Rf_read : List Cond := .code y_Rf_read b_Rf_read 6 (some .int) :: lw_g
abbrev b_Rf_grant : ByteArray := prog_7_method_27_code
abbrev y_Rf_grant : MethodName := ⟨"AppletFirewallModel", "grant", "(I)I"⟩
abbrev w_Rf_grant : List Cond := .code y_Rf_grant b_Rf_grant 6 (some .int) :: lw_g
abbrev b_Rf_shared : ByteArray := prog_7_method_28_code
abbrev y_Rf_shared : MethodName := ⟨"AppletFirewallModel", "shared", "(III)I"⟩
abbrev w_Rf_shared : List Cond := .code y_Rf_shared b_Rf_shared 8 (some .int) :: lw_g
abbrev b_Rf_carry : ByteArray := prog_7_method_19_code
abbrev y_Rf_carry : MethodName := ⟨"AppletFirewallModel", "carry", "(III)I"⟩
abbrev w_Rf_carry : List Cond := .code y_Rf_carry b_Rf_carry 4 (some .int) :: lw_g
abbrev b_Rf_run : ByteArray := prog_7_method_18_code
abbrev y_Rf_run : MethodName := ⟨"AppletFirewallModel", "run", "()I"⟩
abbrev w_Rf_run : List Cond := .code y_Rf_run b_Rf_run 2 (some .int) :: lw_g
abbrev b_Rf_waiting : ByteArray := prog_7_method_29_code
abbrev y_Rf_waiting : MethodName := ⟨"AppletFirewallModel", "waiting", "()I"⟩
abbrev w_Rf_waiting : List Cond := .code y_Rf_waiting b_Rf_waiting 1 (some .int) :: lw_g
abbrev b_Rf_length : ByteArray := prog_7_method_30_code
abbrev y_Rf_length : MethodName := ⟨"AppletFirewallModel", "length", "()I"⟩
abbrev w_Rf_length : List Cond := .code y_Rf_length b_Rf_length 1 (some .int) :: lw_g
abbrev b_Rf_response : ByteArray := prog_7_method_31_code
abbrev y_Rf_response : MethodName := ⟨"AppletFirewallModel", "response", "(I)I"⟩
abbrev w_Rf_response : List Cond := .code y_Rf_response b_Rf_response 2 (some .int) :: lw_g
abbrev b_Rf_writes : ByteArray := prog_7_method_32_code
abbrev y_Rf_writes : MethodName := ⟨"AppletFirewallModel", "writes", "()I"⟩
abbrev w_Rf_writes : List Cond := .code y_Rf_writes b_Rf_writes 1 (some .int) :: lw_g
abbrev b_Rf_failures : ByteArray := prog_7_method_33_code
abbrev y_Rf_failures : MethodName := ⟨"AppletFirewallModel", "failures", "()I"⟩
abbrev w_Rf_failures : List Cond := .code y_Rf_failures b_Rf_failures 1 (some .int) :: lw_g
abbrev b_Rf_data : ByteArray := prog_7_method_34_code
abbrev y_Rf_data : MethodName := ⟨"AppletFirewallModel", "data", "(II)I"⟩
abbrev w_Rf_data : List Cond := .code y_Rf_data b_Rf_data 3 (some .int) :: lw_g
abbrev b_Rf_tries : ByteArray := prog_7_method_35_code
abbrev y_Rf_tries : MethodName := ⟨"AppletFirewallModel", "tries", "(I)I"⟩
abbrev w_Rf_tries : List Cond := .code y_Rf_tries b_Rf_tries 2 (some .int) :: lw_g
abbrev b_Rf_share : ByteArray := prog_7_method_36_code
abbrev y_Rf_share : MethodName := ⟨"AppletFirewallModel", "share", "(I)I"⟩
abbrev w_Rf_share : List Cond := .code y_Rf_share b_Rf_share 3 (some .int) :: lw_g
abbrev b_Rf_pending : ByteArray := prog_7_method_37_code
abbrev y_Rf_pending : MethodName := ⟨"AppletFirewallModel", "pending", "()I"⟩
abbrev w_Rf_pending : List Cond := .code y_Rf_pending b_Rf_pending 1 (some .int) :: lw_g
abbrev b_Rf_session : ByteArray := prog_7_method_38_code
abbrev y_Rf_session : MethodName := ⟨"AppletFirewallModel", "session", "()I"⟩
abbrev w_Rf_session : List Cond := .code y_Rf_session b_Rf_session 1 (some .int) :: lw_g
theorem wq0 : (.selects "AppletFirewall" ⟨"AppletFirewall", nm17, "(LAppletFirewall$Instruction;)I"⟩ ⟨"AppletFirewall", nm17, "(LAppletFirewall$Instruction;)I"⟩ : Cond) ∈ lw_g := List.mem_filter.mpr ⟨List.mem_of_getElem? (i := 0) (by decide +kernel), by decide +kernel⟩
theorem wq1 : (.selects "AppletFirewall" ⟨"AppletFirewall", "perform", "(LAppletFirewall$Instruction;)I"⟩ ⟨"AppletFirewall", "perform", "(LAppletFirewall$Instruction;)I"⟩ : Cond) ∈ lw_g := List.mem_filter.mpr ⟨List.mem_of_getElem? (i := 1) (by decide +kernel), by decide +kernel⟩
theorem wq2 : (.selects "AppletFirewall" ⟨"AppletFirewall", "select", "()I"⟩ ⟨"AppletFirewall", "select", "()I"⟩ : Cond) ∈ lw_g := List.mem_filter.mpr ⟨List.mem_of_getElem? (i := 2) (by decide +kernel), by decide +kernel⟩
theorem wq3 : (.selects "AppletFirewall" ⟨"AppletFirewall", "respond", "(II)I"⟩ ⟨"AppletFirewall", "respond", "(II)I"⟩ : Cond) ∈ lw_g := List.mem_filter.mpr ⟨List.mem_of_getElem? (i := 3) (by decide +kernel), by decide +kernel⟩
theorem wq4 : (.selects "AppletFirewall" ⟨"AppletFirewall", "verify", "()I"⟩ ⟨"AppletFirewall", "verify", "()I"⟩ : Cond) ∈ lw_g := List.mem_filter.mpr ⟨List.mem_of_getElem? (i := 4) (by decide +kernel), by decide +kernel⟩
theorem wq5 : (.selects "AppletFirewall" ⟨"AppletFirewall", "payloadIsSecret", "()Z"⟩ ⟨"AppletFirewall", "payloadIsSecret", "()Z"⟩ : Cond) ∈ lw_g := List.mem_filter.mpr ⟨List.mem_of_getElem? (i := 5) (by decide +kernel), by decide +kernel⟩
theorem wq6 : (.selects "AppletFirewall" ⟨"AppletFirewall", "storePayload", "(I)I"⟩ ⟨"AppletFirewall", "storePayload", "(I)I"⟩ : Cond) ∈ lw_g := List.mem_filter.mpr ⟨List.mem_of_getElem? (i := 6) (by decide +kernel), by decide +kernel⟩
theorem wq7 : (.selects "AppletFirewall" ⟨"AppletFirewall", "store", "(I[III)I"⟩ ⟨"AppletFirewall", "store", "(I[III)I"⟩ : Cond) ∈ lw_g := List.mem_filter.mpr ⟨List.mem_of_getElem? (i := 7) (by decide +kernel), by decide +kernel⟩
theorem wq8 : (.selects "AppletFirewall" ⟨"AppletFirewall", "unblock", "()I"⟩ ⟨"AppletFirewall", "unblock", "()I"⟩ : Cond) ∈ lw_g := List.mem_filter.mpr ⟨List.mem_of_getElem? (i := 8) (by decide +kernel), by decide +kernel⟩
theorem wq9 : (.selects "AppletFirewall" ⟨"AppletFirewall", "read", "()I"⟩ ⟨"AppletFirewall", "read", "()I"⟩ : Cond) ∈ lw_g := List.mem_filter.mpr ⟨List.mem_of_getElem? (i := 9) (by decide +kernel), by decide +kernel⟩
theorem wq10 : (.selects "AppletFirewall" ⟨"AppletFirewall", "update", "()I"⟩ ⟨"AppletFirewall", "update", "()I"⟩ : Cond) ∈ lw_g := List.mem_filter.mpr ⟨List.mem_of_getElem? (i := 10) (by decide +kernel), by decide +kernel⟩
theorem wq11 : (.selects "AppletFirewall" ⟨"AppletFirewall", "begin", "()I"⟩ ⟨"AppletFirewall", "begin", "()I"⟩ : Cond) ∈ lw_g := List.mem_filter.mpr ⟨List.mem_of_getElem? (i := 11) (by decide +kernel), by decide +kernel⟩
theorem wq12 : (.selects "AppletFirewall" ⟨"AppletFirewall", "end", "()I"⟩ ⟨"AppletFirewall", "end", "()I"⟩ : Cond) ∈ lw_g := List.mem_filter.mpr ⟨List.mem_of_getElem? (i := 12) (by decide +kernel), by decide +kernel⟩
theorem wq13 : (.selects "AppletFirewall" ⟨"AppletFirewall", "grant", "()I"⟩ ⟨"AppletFirewall", "grant", "()I"⟩ : Cond) ∈ lw_g := List.mem_filter.mpr ⟨List.mem_of_getElem? (i := 13) (by decide +kernel), by decide +kernel⟩
theorem wq14 : (.selects "AppletFirewall" ⟨"AppletFirewall", "ownerOf", "(I)I"⟩ ⟨"AppletFirewall", "ownerOf", "(I)I"⟩ : Cond) ∈ lw_g := List.mem_filter.mpr ⟨List.mem_of_getElem? (i := 14) (by decide +kernel), by decide +kernel⟩
theorem wq15 : (.selects "AppletFirewall" ⟨"AppletFirewall", "shareByte", "(II)I"⟩ ⟨"AppletFirewall", "shareByte", "(II)I"⟩ : Cond) ∈ lw_g := List.mem_filter.mpr ⟨List.mem_of_getElem? (i := 15) (by decide +kernel), by decide +kernel⟩
theorem wq16 : (.selects "AppletFirewall" ⟨"AppletFirewall", "revoke", "()I"⟩ ⟨"AppletFirewall", "revoke", "()I"⟩ : Cond) ∈ lw_g := List.mem_filter.mpr ⟨List.mem_of_getElem? (i := 16) (by decide +kernel), by decide +kernel⟩
theorem wq17 : (.selects "AppletFirewall" ⟨"AppletFirewall", "readShared", "()I"⟩ ⟨"AppletFirewall", "readShared", "()I"⟩ : Cond) ∈ lw_g := List.mem_filter.mpr ⟨List.mem_of_getElem? (i := 17) (by decide +kernel), by decide +kernel⟩
theorem wq18 : (.selects "AppletFirewall" ⟨"AppletFirewall", "clientOf", "(I)I"⟩ ⟨"AppletFirewall", "clientOf", "(I)I"⟩ : Cond) ∈ lw_g := List.mem_filter.mpr ⟨List.mem_of_getElem? (i := 18) (by decide +kernel), by decide +kernel⟩
theorem wq19 : (.selects "AppletFirewall" ⟨"AppletFirewall", "sharedPlace", "(II)I"⟩ ⟨"AppletFirewall", "sharedPlace", "(II)I"⟩ : Cond) ∈ lw_g := List.mem_filter.mpr ⟨List.mem_of_getElem? (i := 19) (by decide +kernel), by decide +kernel⟩
theorem wq20 : (.selects "AppletFirewall" ⟨"AppletFirewall", "updateShared", "()I"⟩ ⟨"AppletFirewall", "updateShared", "()I"⟩ : Cond) ∈ lw_g := List.mem_filter.mpr ⟨List.mem_of_getElem? (i := 20) (by decide +kernel), by decide +kernel⟩
theorem wq21 : (.selects "AppletFirewall" ⟨"AppletFirewall", "switchOff", "()V"⟩ ⟨"AppletFirewall", "switchOff", "()V"⟩ : Cond) ∈ lw_g := List.mem_filter.mpr ⟨List.mem_of_getElem? (i := 21) (by decide +kernel), by decide +kernel⟩
theorem wq22 : (.selects "AppletFirewallModel" ⟨"AppletFirewallModel", "forget", "()V"⟩ ⟨"AppletFirewallModel", "forget", "()V"⟩ : Cond) ∈ lw_g := List.mem_filter.mpr ⟨List.mem_of_getElem? (i := 22) (by decide +kernel), by decide +kernel⟩
theorem wq23 : (.selects "AppletFirewallModel" ⟨"AppletFirewallModel", "undo", "()Z"⟩ ⟨"AppletFirewallModel", "undo", "()Z"⟩ : Cond) ∈ lw_g := List.mem_filter.mpr ⟨List.mem_of_getElem? (i := 23) (by decide +kernel), by decide +kernel⟩
theorem wq24 : (.selects "AppletFirewallModel" ⟨"AppletFirewallModel", "several", "(I)Z"⟩ ⟨"AppletFirewallModel", "several", "(I)Z"⟩ : Cond) ∈ lw_g := List.mem_filter.mpr ⟨List.mem_of_getElem? (i := 24) (by decide +kernel), by decide +kernel⟩
theorem wq25 : (.selects "AppletFirewallModel" ⟨"AppletFirewallModel", "write", "()Z"⟩ ⟨"AppletFirewallModel", "write", "()Z"⟩ : Cond) ∈ lw_g := List.mem_filter.mpr ⟨List.mem_of_getElem? (i := 25) (by decide +kernel), by decide +kernel⟩
theorem wq26 : (.selects "AppletFirewallModel" ⟨"AppletFirewallModel", "refuse", "()I"⟩ ⟨"AppletFirewallModel", "refuse", "()I"⟩ : Cond) ∈ lw_g := List.mem_filter.mpr ⟨List.mem_of_getElem? (i := 26) (by decide +kernel), by decide +kernel⟩
theorem wq27 : (.selects "AppletFirewallModel" ⟨"AppletFirewallModel", "shape", "()I"⟩ ⟨"AppletFirewallModel", "shape", "()I"⟩ : Cond) ∈ lw_g := List.mem_filter.mpr ⟨List.mem_of_getElem? (i := 27) (by decide +kernel), by decide +kernel⟩
theorem wq28 : (.selects "AppletFirewallModel" ⟨"AppletFirewallModel", "lengthWrong", "(I)Z"⟩ ⟨"AppletFirewallModel", "lengthWrong", "(I)Z"⟩ : Cond) ∈ lw_g := List.mem_filter.mpr ⟨List.mem_of_getElem? (i := 28) (by decide +kernel), by decide +kernel⟩
theorem wq29 : (.selects "AppletFirewallModel" ⟨"AppletFirewallModel", "placesWrong", "(I)Z"⟩ ⟨"AppletFirewallModel", "placesWrong", "(I)Z"⟩ : Cond) ∈ lw_g := List.mem_filter.mpr ⟨List.mem_of_getElem? (i := 29) (by decide +kernel), by decide +kernel⟩
theorem wq30 : (.selects "AppletFirewallModel" ⟨"AppletFirewallModel", "carry", "(III)I"⟩ ⟨"AppletFirewallModel", "carry", "(III)I"⟩ : Cond) ∈ lw_g := List.mem_filter.mpr ⟨List.mem_of_getElem? (i := 30) (by decide +kernel), by decide +kernel⟩
theorem wq31 : (.selects "AppletFirewallModel" ⟨"AppletFirewallModel", "select", "(I)I"⟩ ⟨"AppletFirewallModel", "select", "(I)I"⟩ : Cond) ∈ lw_g := List.mem_filter.mpr ⟨List.mem_of_getElem? (i := 31) (by decide +kernel), by decide +kernel⟩
theorem wq32 : (.selects "AppletFirewallModel" ⟨"AppletFirewallModel", "verify", "()I"⟩ ⟨"AppletFirewallModel", "verify", "()I"⟩ : Cond) ∈ lw_g := List.mem_filter.mpr ⟨List.mem_of_getElem? (i := 32) (by decide +kernel), by decide +kernel⟩
theorem wq33 : (.selects "AppletFirewallModel" ⟨"AppletFirewallModel", "store", "(II)I"⟩ ⟨"AppletFirewallModel", "store", "(II)I"⟩ : Cond) ∈ lw_g := List.mem_filter.mpr ⟨List.mem_of_getElem? (i := 33) (by decide +kernel), by decide +kernel⟩
theorem wq34 : (.selects "AppletFirewallModel" ⟨"AppletFirewallModel", "change", "(II)Z"⟩ ⟨"AppletFirewallModel", "change", "(II)Z"⟩ : Cond) ∈ lw_g := List.mem_filter.mpr ⟨List.mem_of_getElem? (i := 34) (by decide +kernel), by decide +kernel⟩
theorem wq35 : (.selects "AppletFirewallModel" ⟨"AppletFirewallModel", "settle", "()Z"⟩ ⟨"AppletFirewallModel", "settle", "()Z"⟩ : Cond) ∈ lw_g := List.mem_filter.mpr ⟨List.mem_of_getElem? (i := 35) (by decide +kernel), by decide +kernel⟩
theorem wq36 : (.selects "AppletFirewallModel" ⟨"AppletFirewallModel", "unblock", "(I)I"⟩ ⟨"AppletFirewallModel", "unblock", "(I)I"⟩ : Cond) ∈ lw_g := List.mem_filter.mpr ⟨List.mem_of_getElem? (i := 36) (by decide +kernel), by decide +kernel⟩
theorem wq37 : (.selects "AppletFirewallModel" ⟨"AppletFirewallModel", "read", "(III)I"⟩ ⟨"AppletFirewallModel", "read", "(III)I"⟩ : Cond) ∈ lw_g := List.mem_filter.mpr ⟨List.mem_of_getElem? (i := 37) (by decide +kernel), by decide +kernel⟩
theorem wq38 : (.selects "AppletFirewallModel" ⟨"AppletFirewallModel", "begin", "()I"⟩ ⟨"AppletFirewallModel", "begin", "()I"⟩ : Cond) ∈ lw_g := List.mem_filter.mpr ⟨List.mem_of_getElem? (i := 38) (by decide +kernel), by decide +kernel⟩
theorem wq39 : (.selects "AppletFirewallModel" ⟨"AppletFirewallModel", "end", "(I)I"⟩ ⟨"AppletFirewallModel", "end", "(I)I"⟩ : Cond) ∈ lw_g := List.mem_filter.mpr ⟨List.mem_of_getElem? (i := 39) (by decide +kernel), by decide +kernel⟩
theorem wq40 : (.selects "AppletFirewallModel" ⟨"AppletFirewallModel", "grant", "(I)I"⟩ ⟨"AppletFirewallModel", "grant", "(I)I"⟩ : Cond) ∈ lw_g := List.mem_filter.mpr ⟨List.mem_of_getElem? (i := 40) (by decide +kernel), by decide +kernel⟩
theorem wq41 : (.selects "AppletFirewallModel" ⟨"AppletFirewallModel", "shared", "(III)I"⟩ ⟨"AppletFirewallModel", "shared", "(III)I"⟩ : Cond) ∈ lw_g := List.mem_filter.mpr ⟨List.mem_of_getElem? (i := 41) (by decide +kernel), by decide +kernel⟩
theorem wq43 : (.initialized "AppletFirewall" : Cond) ∈ lw_g := List.mem_filter.mpr ⟨List.mem_of_getElem? (i := 43) (by decide +kernel), by decide +kernel⟩
theorem wq44 : (.initialized "AppletFirewall$Memory" : Cond) ∈ lw_g := List.mem_filter.mpr ⟨List.mem_of_getElem? (i := 44) (by decide +kernel), by decide +kernel⟩
theorem wq45 : (.initialized "AppletFirewall$Input" : Cond) ∈ lw_g := List.mem_filter.mpr ⟨List.mem_of_getElem? (i := 45) (by decide +kernel), by decide +kernel⟩
theorem wq46 : (.initialized "AppletFirewallModel" : Cond) ∈ lw_g := List.mem_filter.mpr ⟨List.mem_of_getElem? (i := 46) (by decide +kernel), by decide +kernel⟩
theorem wq47 : (.initialized "java/lang/Enum" : Cond) ∈ lw_g := List.mem_filter.mpr ⟨List.mem_of_getElem? (i := 47) (by decide +kernel), by decide +kernel⟩
theorem wq48 : (.initialized "AppletFirewall$Instruction" : Cond) ∈ lw_g := List.mem_filter.mpr ⟨List.mem_of_getElem? (i := 48) (by decide +kernel), by decide +kernel⟩
theorem wq55 : (.methodLink "AppletFirewall" 1 ⟨"java/lang/Object", "<init>", "()V"⟩ : Cond) ∈ lw_g := List.mem_filter.mpr ⟨List.mem_of_getElem? (i := 55) (by decide +kernel), by decide +kernel⟩
theorem wq56 : (.instanceMethod ⟨"java/lang/Object", "<init>", "()V"⟩ : Cond) ∈ lw_g := List.mem_filter.mpr ⟨List.mem_of_getElem? (i := 56) (by decide +kernel), by decide +kernel⟩
theorem wq57 : (.code ⟨"java/lang/Object", "<init>", "()V"⟩ object_method_1_code 1 none : Cond) ∈ lw_g := List.mem_filter.mpr ⟨List.mem_of_getElem? (i := 57) (by decide +kernel), by decide +kernel⟩
theorem wq58 : (.classLink "AppletFirewall" 7 "AppletFirewall$Memory" : Cond) ∈ lw_g := List.mem_filter.mpr ⟨List.mem_of_getElem? (i := 58) (by decide +kernel), by decide +kernel⟩
theorem wq59 : (.instantiable "AppletFirewall$Memory" 4 : Cond) ∈ lw_g := List.mem_filter.mpr ⟨List.mem_of_getElem? (i := 59) (by decide +kernel), by decide +kernel⟩
theorem wq60 : (.methodLink "AppletFirewall" 9 ⟨"AppletFirewall$Memory", "<init>", "()V"⟩ : Cond) ∈ lw_g := List.mem_filter.mpr ⟨List.mem_of_getElem? (i := 60) (by decide +kernel), by decide +kernel⟩
theorem wq61 : (.instanceMethod ⟨"AppletFirewall$Memory", "<init>", "()V"⟩ : Cond) ∈ lw_g := List.mem_filter.mpr ⟨List.mem_of_getElem? (i := 61) (by decide +kernel), by decide +kernel⟩
theorem wq62 : (.code ⟨"AppletFirewall$Memory", "<init>", "()V"⟩ prog_5_method_1_code 2 none : Cond) ∈ lw_g := List.mem_filter.mpr ⟨List.mem_of_getElem? (i := 62) (by decide +kernel), by decide +kernel⟩
theorem wq63 : (.methodLink "AppletFirewall$Memory" 5 ⟨"java/lang/Object", "<init>", "()V"⟩ : Cond) ∈ lw_g := List.mem_filter.mpr ⟨List.mem_of_getElem? (i := 63) (by decide +kernel), by decide +kernel⟩
theorem wq64 : (.fieldLink "AppletFirewall$Memory" 11 "AppletFirewall$Memory" "cells" "[I" : Cond) ∈ lw_g := List.mem_filter.mpr ⟨List.mem_of_getElem? (i := 64) (by decide +kernel), by decide +kernel⟩
theorem wq65 : (.fieldLink "AppletFirewall$Memory" 19 "AppletFirewall$Memory" "written" "I" : Cond) ∈ lw_g := List.mem_filter.mpr ⟨List.mem_of_getElem? (i := 65) (by decide +kernel), by decide +kernel⟩
theorem wq66 : (.fieldLink "AppletFirewall$Memory" 22 "AppletFirewall$Memory" "failed" "I" : Cond) ∈ lw_g := List.mem_filter.mpr ⟨List.mem_of_getElem? (i := 66) (by decide +kernel), by decide +kernel⟩
theorem wq67 : (.fieldLink "AppletFirewall$Memory" 15 "AppletFirewall$Memory" "fuse" "I" : Cond) ∈ lw_g := List.mem_filter.mpr ⟨List.mem_of_getElem? (i := 67) (by decide +kernel), by decide +kernel⟩
theorem wq77 : (.arrayClass FieldType.int : Cond) ∈ lw_g := List.mem_filter.mpr ⟨List.mem_of_getElem? (i := 77) (by decide +kernel), by decide +kernel⟩
theorem wq78 : (.classLink "AppletFirewall" 16 "AppletFirewall$Input" : Cond) ∈ lw_g := List.mem_filter.mpr ⟨List.mem_of_getElem? (i := 78) (by decide +kernel), by decide +kernel⟩
theorem wq79 : (.instantiable "AppletFirewall$Input" 2 : Cond) ∈ lw_g := List.mem_filter.mpr ⟨List.mem_of_getElem? (i := 79) (by decide +kernel), by decide +kernel⟩
theorem wq80 : (.methodLink "AppletFirewall" 18 ⟨"AppletFirewall$Input", "<init>", "()V"⟩ : Cond) ∈ lw_g := List.mem_filter.mpr ⟨List.mem_of_getElem? (i := 80) (by decide +kernel), by decide +kernel⟩
theorem wq81 : (.instanceMethod ⟨"AppletFirewall$Input", "<init>", "()V"⟩ : Cond) ∈ lw_g := List.mem_filter.mpr ⟨List.mem_of_getElem? (i := 81) (by decide +kernel), by decide +kernel⟩
theorem wq82 : (.code ⟨"AppletFirewall$Input", "<init>", "()V"⟩ prog_3_method_1_code 1 none : Cond) ∈ lw_g := List.mem_filter.mpr ⟨List.mem_of_getElem? (i := 82) (by decide +kernel), by decide +kernel⟩
theorem wq83 : (.methodLink "AppletFirewall$Input" 1 ⟨"java/lang/Object", "<init>", "()V"⟩ : Cond) ∈ lw_g := List.mem_filter.mpr ⟨List.mem_of_getElem? (i := 83) (by decide +kernel), by decide +kernel⟩
theorem wq84 : (.fieldLink "AppletFirewall$Input" 9 "AppletFirewall$Input" "bytes" "[I" : Cond) ∈ lw_g := List.mem_filter.mpr ⟨List.mem_of_getElem? (i := 84) (by decide +kernel), by decide +kernel⟩
theorem wq85 : (.fieldLink "AppletFirewall$Input" 13 "AppletFirewall$Input" "count" "I" : Cond) ∈ lw_g := List.mem_filter.mpr ⟨List.mem_of_getElem? (i := 85) (by decide +kernel), by decide +kernel⟩
theorem wq91 : (.fieldLink "AppletFirewall" 10 "AppletFirewall" "memory" "LAppletFirewall$Memory;" : Cond) ∈ lw_g := List.mem_filter.mpr ⟨List.mem_of_getElem? (i := 91) (by decide +kernel), by decide +kernel⟩
theorem wq92 : (.fieldLink "AppletFirewall" 19 "AppletFirewall" "input" "LAppletFirewall$Input;" : Cond) ∈ lw_g := List.mem_filter.mpr ⟨List.mem_of_getElem? (i := 92) (by decide +kernel), by decide +kernel⟩
theorem wq93 : (.fieldLink "AppletFirewall" 23 "AppletFirewall" "answer" "[I" : Cond) ∈ lw_g := List.mem_filter.mpr ⟨List.mem_of_getElem? (i := 93) (by decide +kernel), by decide +kernel⟩
theorem wq94 : (.fieldLink "AppletFirewall" 27 "AppletFirewall" "grantRow" "[I" : Cond) ∈ lw_g := List.mem_filter.mpr ⟨List.mem_of_getElem? (i := 94) (by decide +kernel), by decide +kernel⟩
theorem wq95 : (.fieldLink "AppletFirewall" 42 "AppletFirewall" "answerLength" "I" : Cond) ∈ lw_g := List.mem_filter.mpr ⟨List.mem_of_getElem? (i := 95) (by decide +kernel), by decide +kernel⟩
theorem wq96 : (.fieldLink "AppletFirewall" 34 "AppletFirewall" "on" "Z" : Cond) ∈ lw_g := List.mem_filter.mpr ⟨List.mem_of_getElem? (i := 96) (by decide +kernel), by decide +kernel⟩
theorem wq97 : (.fieldLink "AppletFirewall" 30 "AppletFirewall" "selected" "I" : Cond) ∈ lw_g := List.mem_filter.mpr ⟨List.mem_of_getElem? (i := 97) (by decide +kernel), by decide +kernel⟩
theorem wq98 : (.fieldLink "AppletFirewall" 107 "AppletFirewall" "verified" "Z" : Cond) ∈ lw_g := List.mem_filter.mpr ⟨List.mem_of_getElem? (i := 98) (by decide +kernel), by decide +kernel⟩
theorem wq99 : (.fieldLink "AppletFirewall" 110 "AppletFirewall" "open" "Z" : Cond) ∈ lw_g := List.mem_filter.mpr ⟨List.mem_of_getElem? (i := 99) (by decide +kernel), by decide +kernel⟩
theorem wq123 : (.methodLink "AppletFirewall" 38 ⟨"AppletFirewall$Input", "append", "(JI)Z"⟩ : Cond) ∈ lw_g := List.mem_filter.mpr ⟨List.mem_of_getElem? (i := 123) (by decide +kernel), by decide +kernel⟩
theorem wq124 : (.instanceMethod ⟨"AppletFirewall$Input", "append", "(JI)Z"⟩ : Cond) ∈ lw_g := List.mem_filter.mpr ⟨List.mem_of_getElem? (i := 124) (by decide +kernel), by decide +kernel⟩
theorem wq125 : (.selects "AppletFirewall$Input" ⟨"AppletFirewall$Input", "append", "(JI)Z"⟩ ⟨"AppletFirewall$Input", "append", "(JI)Z"⟩ : Cond) ∈ lw_g := List.mem_filter.mpr ⟨List.mem_of_getElem? (i := 125) (by decide +kernel), by decide +kernel⟩
theorem wq126 : (.code ⟨"AppletFirewall$Input", "append", "(JI)Z"⟩ prog_3_method_2_code 5 (some FieldType.boolean) : Cond) ∈ lw_g := List.mem_filter.mpr ⟨List.mem_of_getElem? (i := 126) (by decide +kernel), by decide +kernel⟩
theorem wq131 : (.methodLink "AppletFirewall" 45 ⟨"AppletFirewall$Input", "instruction", "()I"⟩ : Cond) ∈ lw_g := List.mem_filter.mpr ⟨List.mem_of_getElem? (i := 131) (by decide +kernel), by decide +kernel⟩
theorem wq132 : (.instanceMethod ⟨"AppletFirewall$Input", "instruction", "()I"⟩ : Cond) ∈ lw_g := List.mem_filter.mpr ⟨List.mem_of_getElem? (i := 132) (by decide +kernel), by decide +kernel⟩
theorem wq133 : (.selects "AppletFirewall$Input" ⟨"AppletFirewall$Input", "instruction", "()I"⟩ ⟨"AppletFirewall$Input", "instruction", "()I"⟩ : Cond) ∈ lw_g := List.mem_filter.mpr ⟨List.mem_of_getElem? (i := 133) (by decide +kernel), by decide +kernel⟩
theorem wq134 : (.code ⟨"AppletFirewall$Input", "instruction", "()I"⟩ prog_3_method_7_code 1 (some FieldType.int) : Cond) ∈ lw_g := List.mem_filter.mpr ⟨List.mem_of_getElem? (i := 134) (by decide +kernel), by decide +kernel⟩
theorem wq135 : (.methodLink "AppletFirewall" 49 ⟨"AppletFirewall$Instruction", "withCode", "(I)LAppletFirewall$Instruction;"⟩ : Cond) ∈ lw_g := List.mem_filter.mpr ⟨List.mem_of_getElem? (i := 135) (by decide +kernel), by decide +kernel⟩
theorem wq136 : (.static ⟨"AppletFirewall$Instruction", "withCode", "(I)LAppletFirewall$Instruction;"⟩ : Cond) ∈ lw_g := List.mem_filter.mpr ⟨List.mem_of_getElem? (i := 136) (by decide +kernel), by decide +kernel⟩
theorem wq137 : (.code ⟨"AppletFirewall$Instruction", "withCode", "(I)LAppletFirewall$Instruction;"⟩ prog_4_method_4_code 2 (some (FieldType.object "AppletFirewall$Instruction")) : Cond) ∈ lw_g := List.mem_filter.mpr ⟨List.mem_of_getElem? (i := 137) (by decide +kernel), by decide +kernel⟩
theorem wq138 : (.fieldLink "AppletFirewall$Instruction" 82 "AppletFirewall$Instruction" "ALL" "[LAppletFirewall$Instruction;" : Cond) ∈ lw_g := List.mem_filter.mpr ⟨List.mem_of_getElem? (i := 138) (by decide +kernel), by decide +kernel⟩
theorem wq140 : (.fieldLink "AppletFirewall$Instruction" 40 "AppletFirewall$Instruction" "UNKNOWN" "LAppletFirewall$Instruction;" : Cond) ∈ lw_g := List.mem_filter.mpr ⟨List.mem_of_getElem? (i := 140) (by decide +kernel), by decide +kernel⟩
theorem wq142 : (.methodLink "AppletFirewall" 55 ⟨"AppletFirewall", nm17, "(LAppletFirewall$Instruction;)I"⟩ : Cond) ∈ lw_g := List.mem_filter.mpr ⟨List.mem_of_getElem? (i := 142) (by decide +kernel), by decide +kernel⟩
theorem wq144 : (.instanceMethod ⟨"AppletFirewall", nm17, "(LAppletFirewall$Instruction;)I"⟩ : Cond) ∈ lw_g := List.mem_filter.mpr ⟨List.mem_of_getElem? (i := 144) (by decide +kernel), by decide +kernel⟩
theorem wq145 : (.code ⟨"AppletFirewall", nm17, "(LAppletFirewall$Instruction;)I"⟩ prog_1_method_17_code 2 (some FieldType.int) : Cond) ∈ lw_g := List.mem_filter.mpr ⟨List.mem_of_getElem? (i := 145) (by decide +kernel), by decide +kernel⟩
theorem wq146 : (.methodLink "AppletFirewall" 113 ⟨"AppletFirewall$Input", "shape", "()I"⟩ : Cond) ∈ lw_g := List.mem_filter.mpr ⟨List.mem_of_getElem? (i := 146) (by decide +kernel), by decide +kernel⟩
theorem wq147 : (.instanceMethod ⟨"AppletFirewall$Input", "shape", "()I"⟩ : Cond) ∈ lw_g := List.mem_filter.mpr ⟨List.mem_of_getElem? (i := 147) (by decide +kernel), by decide +kernel⟩
theorem wq148 : (.selects "AppletFirewall$Input" ⟨"AppletFirewall$Input", "shape", "()I"⟩ ⟨"AppletFirewall$Input", "shape", "()I"⟩ : Cond) ∈ lw_g := List.mem_filter.mpr ⟨List.mem_of_getElem? (i := 148) (by decide +kernel), by decide +kernel⟩
theorem wq149 : (.code ⟨"AppletFirewall$Input", "shape", "()I"⟩ prog_3_method_5_code 1 (some FieldType.int) : Cond) ∈ lw_g := List.mem_filter.mpr ⟨List.mem_of_getElem? (i := 149) (by decide +kernel), by decide +kernel⟩
theorem wq150 : (.methodLink "AppletFirewall$Input" 17 ⟨"AppletFirewall$Input", "lc", "()I"⟩ : Cond) ∈ lw_g := List.mem_filter.mpr ⟨List.mem_of_getElem? (i := 150) (by decide +kernel), by decide +kernel⟩
theorem wq151 : (.instanceMethod ⟨"AppletFirewall$Input", "lc", "()I"⟩ : Cond) ∈ lw_g := List.mem_filter.mpr ⟨List.mem_of_getElem? (i := 151) (by decide +kernel), by decide +kernel⟩
theorem wq152 : (.selects "AppletFirewall$Input" ⟨"AppletFirewall$Input", "lc", "()I"⟩ ⟨"AppletFirewall$Input", "lc", "()I"⟩ : Cond) ∈ lw_g := List.mem_filter.mpr ⟨List.mem_of_getElem? (i := 152) (by decide +kernel), by decide +kernel⟩
theorem wq153 : (.code ⟨"AppletFirewall$Input", "lc", "()I"⟩ prog_3_method_10_code 1 (some FieldType.int) : Cond) ∈ lw_g := List.mem_filter.mpr ⟨List.mem_of_getElem? (i := 153) (by decide +kernel), by decide +kernel⟩
theorem wq154 : (.methodLink "AppletFirewall" 116 ⟨"AppletFirewall$Input", "cardClass", "()I"⟩ : Cond) ∈ lw_g := List.mem_filter.mpr ⟨List.mem_of_getElem? (i := 154) (by decide +kernel), by decide +kernel⟩
theorem wq155 : (.instanceMethod ⟨"AppletFirewall$Input", "cardClass", "()I"⟩ : Cond) ∈ lw_g := List.mem_filter.mpr ⟨List.mem_of_getElem? (i := 155) (by decide +kernel), by decide +kernel⟩
theorem wq156 : (.selects "AppletFirewall$Input" ⟨"AppletFirewall$Input", "cardClass", "()I"⟩ ⟨"AppletFirewall$Input", "cardClass", "()I"⟩ : Cond) ∈ lw_g := List.mem_filter.mpr ⟨List.mem_of_getElem? (i := 156) (by decide +kernel), by decide +kernel⟩
theorem wq157 : (.code ⟨"AppletFirewall$Input", "cardClass", "()I"⟩ prog_3_method_6_code 1 (some FieldType.int) : Cond) ∈ lw_g := List.mem_filter.mpr ⟨List.mem_of_getElem? (i := 157) (by decide +kernel), by decide +kernel⟩
theorem wq158 : (.fieldLink "AppletFirewall" 119 "AppletFirewall$Instruction" "UNKNOWN" "LAppletFirewall$Instruction;" : Cond) ∈ lw_g := List.mem_filter.mpr ⟨List.mem_of_getElem? (i := 158) (by decide +kernel), by decide +kernel⟩
theorem wq159 : (.methodLink "AppletFirewall" 123 ⟨"AppletFirewall$Input", "lc", "()I"⟩ : Cond) ∈ lw_g := List.mem_filter.mpr ⟨List.mem_of_getElem? (i := 159) (by decide +kernel), by decide +kernel⟩
theorem wq160 : (.methodLink "AppletFirewall" 126 ⟨"AppletFirewall$Instruction", "takesForm", "(II)Z"⟩ : Cond) ∈ lw_g := List.mem_filter.mpr ⟨List.mem_of_getElem? (i := 160) (by decide +kernel), by decide +kernel⟩
theorem wq161 : (.instanceMethod ⟨"AppletFirewall$Instruction", "takesForm", "(II)Z"⟩ : Cond) ∈ lw_g := List.mem_filter.mpr ⟨List.mem_of_getElem? (i := 161) (by decide +kernel), by decide +kernel⟩
theorem wq162 : (.selects "AppletFirewall$Instruction" ⟨"AppletFirewall$Instruction", "takesForm", "(II)Z"⟩ ⟨"AppletFirewall$Instruction", "takesForm", "(II)Z"⟩ : Cond) ∈ lw_g := List.mem_filter.mpr ⟨List.mem_of_getElem? (i := 162) (by decide +kernel), by decide +kernel⟩
theorem wq163 : (.code ⟨"AppletFirewall$Instruction", "takesForm", "(II)Z"⟩ prog_4_method_5_code 3 (some FieldType.boolean) : Cond) ∈ lw_g := List.mem_filter.mpr ⟨List.mem_of_getElem? (i := 163) (by decide +kernel), by decide +kernel⟩
theorem wq164 : (.methodLink "AppletFirewall" 130 ⟨"AppletFirewall$Input", "p1", "()I"⟩ : Cond) ∈ lw_g := List.mem_filter.mpr ⟨List.mem_of_getElem? (i := 164) (by decide +kernel), by decide +kernel⟩
theorem wq165 : (.instanceMethod ⟨"AppletFirewall$Input", "p1", "()I"⟩ : Cond) ∈ lw_g := List.mem_filter.mpr ⟨List.mem_of_getElem? (i := 165) (by decide +kernel), by decide +kernel⟩
theorem wq166 : (.selects "AppletFirewall$Input" ⟨"AppletFirewall$Input", "p1", "()I"⟩ ⟨"AppletFirewall$Input", "p1", "()I"⟩ : Cond) ∈ lw_g := List.mem_filter.mpr ⟨List.mem_of_getElem? (i := 166) (by decide +kernel), by decide +kernel⟩
theorem wq167 : (.code ⟨"AppletFirewall$Input", "p1", "()I"⟩ prog_3_method_8_code 1 (some FieldType.int) : Cond) ∈ lw_g := List.mem_filter.mpr ⟨List.mem_of_getElem? (i := 167) (by decide +kernel), by decide +kernel⟩
theorem wq168 : (.methodLink "AppletFirewall" 133 ⟨"AppletFirewall$Input", "p2", "()I"⟩ : Cond) ∈ lw_g := List.mem_filter.mpr ⟨List.mem_of_getElem? (i := 168) (by decide +kernel), by decide +kernel⟩
theorem wq169 : (.instanceMethod ⟨"AppletFirewall$Input", "p2", "()I"⟩ : Cond) ∈ lw_g := List.mem_filter.mpr ⟨List.mem_of_getElem? (i := 169) (by decide +kernel), by decide +kernel⟩
theorem wq170 : (.selects "AppletFirewall$Input" ⟨"AppletFirewall$Input", "p2", "()I"⟩ ⟨"AppletFirewall$Input", "p2", "()I"⟩ : Cond) ∈ lw_g := List.mem_filter.mpr ⟨List.mem_of_getElem? (i := 170) (by decide +kernel), by decide +kernel⟩
theorem wq171 : (.code ⟨"AppletFirewall$Input", "p2", "()I"⟩ prog_3_method_9_code 1 (some FieldType.int) : Cond) ∈ lw_g := List.mem_filter.mpr ⟨List.mem_of_getElem? (i := 171) (by decide +kernel), by decide +kernel⟩
theorem wq172 : (.methodLink "AppletFirewall" 136 ⟨"AppletFirewall$Instruction", "takesParameters", "(II)Z"⟩ : Cond) ∈ lw_g := List.mem_filter.mpr ⟨List.mem_of_getElem? (i := 172) (by decide +kernel), by decide +kernel⟩
theorem wq173 : (.instanceMethod ⟨"AppletFirewall$Instruction", "takesParameters", "(II)Z"⟩ : Cond) ∈ lw_g := List.mem_filter.mpr ⟨List.mem_of_getElem? (i := 173) (by decide +kernel), by decide +kernel⟩
theorem wq174 : (.selects "AppletFirewall$Instruction" ⟨"AppletFirewall$Instruction", "takesParameters", "(II)Z"⟩ ⟨"AppletFirewall$Instruction", "takesParameters", "(II)Z"⟩ : Cond) ∈ lw_g := List.mem_filter.mpr ⟨List.mem_of_getElem? (i := 174) (by decide +kernel), by decide +kernel⟩
theorem wq175 : (.code ⟨"AppletFirewall$Instruction", "takesParameters", "(II)Z"⟩ prog_4_method_6_code 3 (some FieldType.boolean) : Cond) ∈ lw_g := List.mem_filter.mpr ⟨List.mem_of_getElem? (i := 175) (by decide +kernel), by decide +kernel⟩
theorem wq176 : (.fieldLink "AppletFirewall" 139 "AppletFirewall$Instruction" "SELECT" "LAppletFirewall$Instruction;" : Cond) ∈ lw_g := List.mem_filter.mpr ⟨List.mem_of_getElem? (i := 176) (by decide +kernel), by decide +kernel⟩
theorem wq178 : (.methodLink "AppletFirewall" 142 ⟨"AppletFirewall$Instruction", "isGuarded", "()Z"⟩ : Cond) ∈ lw_g := List.mem_filter.mpr ⟨List.mem_of_getElem? (i := 178) (by decide +kernel), by decide +kernel⟩
theorem wq179 : (.instanceMethod ⟨"AppletFirewall$Instruction", "isGuarded", "()Z"⟩ : Cond) ∈ lw_g := List.mem_filter.mpr ⟨List.mem_of_getElem? (i := 179) (by decide +kernel), by decide +kernel⟩
theorem wq180 : (.selects "AppletFirewall$Instruction" ⟨"AppletFirewall$Instruction", "isGuarded", "()Z"⟩ ⟨"AppletFirewall$Instruction", "isGuarded", "()Z"⟩ : Cond) ∈ lw_g := List.mem_filter.mpr ⟨List.mem_of_getElem? (i := 180) (by decide +kernel), by decide +kernel⟩
theorem wq181 : (.code ⟨"AppletFirewall$Instruction", "isGuarded", "()Z"⟩ prog_4_method_7_code 1 (some FieldType.boolean) : Cond) ∈ lw_g := List.mem_filter.mpr ⟨List.mem_of_getElem? (i := 181) (by decide +kernel), by decide +kernel⟩
theorem wq182 : (.constant "AppletFirewall" 59 36864 : Cond) ∈ lw_g := List.mem_filter.mpr ⟨List.mem_of_getElem? (i := 182) (by decide +kernel), by decide +kernel⟩
theorem wq183 : (.methodLink "AppletFirewall" 60 ⟨"AppletFirewall", "perform", "(LAppletFirewall$Instruction;)I"⟩ : Cond) ∈ lw_g := List.mem_filter.mpr ⟨List.mem_of_getElem? (i := 183) (by decide +kernel), by decide +kernel⟩
theorem wq185 : (.instanceMethod ⟨"AppletFirewall", "perform", "(LAppletFirewall$Instruction;)I"⟩ : Cond) ∈ lw_g := List.mem_filter.mpr ⟨List.mem_of_getElem? (i := 185) (by decide +kernel), by decide +kernel⟩
theorem wq186 : (.code ⟨"AppletFirewall", "perform", "(LAppletFirewall$Instruction;)I"⟩ prog_1_method_18_code 2 (some FieldType.int) : Cond) ∈ lw_g := List.mem_filter.mpr ⟨List.mem_of_getElem? (i := 186) (by decide +kernel), by decide +kernel⟩
theorem wq187 : (.fieldLink "AppletFirewall" 145 "AppletFirewall$1" "$SwitchMap$AppletFirewall$Instruction" "[I" : Cond) ∈ lw_g := List.mem_filter.mpr ⟨List.mem_of_getElem? (i := 187) (by decide +kernel), by decide +kernel⟩
theorem wq189 : (.methodLink "AppletFirewall" 150 ⟨"AppletFirewall$Instruction", "ordinal", "()I"⟩ : Cond) ∈ lw_g := List.mem_filter.mpr ⟨List.mem_of_getElem? (i := 189) (by decide +kernel), by decide +kernel⟩
theorem wq190 : (.sameMethod "AppletFirewall$Instruction" "java/lang/Enum" "ordinal" "()I" : Cond) ∈ lw_g := List.mem_filter.mpr ⟨List.mem_of_getElem? (i := 190) (by decide +kernel), by decide +kernel⟩
theorem wq192 : (.selects "AppletFirewall$Instruction" ⟨"AppletFirewall$Instruction", "ordinal", "()I"⟩ ⟨"java/lang/Enum", "ordinal", "()I"⟩ : Cond) ∈ lw_g := List.mem_filter.mpr ⟨List.mem_of_getElem? (i := 192) (by decide +kernel), by decide +kernel⟩
theorem wq193 : (.instanceMethod ⟨"java/lang/Enum", "ordinal", "()I"⟩ : Cond) ∈ lw_g := List.mem_filter.mpr ⟨List.mem_of_getElem? (i := 193) (by decide +kernel), by decide +kernel⟩
theorem wq194 : (.code ⟨"java/lang/Enum", "ordinal", "()I"⟩ prog_8_method_2_code 1 (some FieldType.int) : Cond) ∈ lw_g := List.mem_filter.mpr ⟨List.mem_of_getElem? (i := 194) (by decide +kernel), by decide +kernel⟩
theorem wq195 : (.methodLink "AppletFirewall" 153 ⟨"AppletFirewall", "select", "()I"⟩ : Cond) ∈ lw_g := List.mem_filter.mpr ⟨List.mem_of_getElem? (i := 195) (by decide +kernel), by decide +kernel⟩
theorem wq197 : (.instanceMethod ⟨"AppletFirewall", "select", "()I"⟩ : Cond) ∈ lw_g := List.mem_filter.mpr ⟨List.mem_of_getElem? (i := 197) (by decide +kernel), by decide +kernel⟩
theorem wq198 : (.code ⟨"AppletFirewall", "select", "()I"⟩ prog_1_method_19_code 2 (some FieldType.int) : Cond) ∈ lw_g := List.mem_filter.mpr ⟨List.mem_of_getElem? (i := 198) (by decide +kernel), by decide +kernel⟩
theorem wq199 : (.methodLink "AppletFirewall" 192 ⟨"AppletFirewall$Input", "payload", "(I)I"⟩ : Cond) ∈ lw_g := List.mem_filter.mpr ⟨List.mem_of_getElem? (i := 199) (by decide +kernel), by decide +kernel⟩
theorem wq200 : (.instanceMethod ⟨"AppletFirewall$Input", "payload", "(I)I"⟩ : Cond) ∈ lw_g := List.mem_filter.mpr ⟨List.mem_of_getElem? (i := 200) (by decide +kernel), by decide +kernel⟩
theorem wq201 : (.selects "AppletFirewall$Input" ⟨"AppletFirewall$Input", "payload", "(I)I"⟩ ⟨"AppletFirewall$Input", "payload", "(I)I"⟩ : Cond) ∈ lw_g := List.mem_filter.mpr ⟨List.mem_of_getElem? (i := 201) (by decide +kernel), by decide +kernel⟩
theorem wq202 : (.code ⟨"AppletFirewall$Input", "payload", "(I)I"⟩ prog_3_method_12_code 2 (some FieldType.int) : Cond) ∈ lw_g := List.mem_filter.mpr ⟨List.mem_of_getElem? (i := 202) (by decide +kernel), by decide +kernel⟩
theorem wq203 : (.methodLink "AppletFirewall" 89 ⟨"AppletFirewall", "isApplet", "(I)Z"⟩ : Cond) ∈ lw_g := List.mem_filter.mpr ⟨List.mem_of_getElem? (i := 203) (by decide +kernel), by decide +kernel⟩
theorem wq204 : (.static ⟨"AppletFirewall", "isApplet", "(I)Z"⟩ : Cond) ∈ lw_g := List.mem_filter.mpr ⟨List.mem_of_getElem? (i := 204) (by decide +kernel), by decide +kernel⟩
theorem wq205 : (.code ⟨"AppletFirewall", "isApplet", "(I)Z"⟩ prog_1_method_39_code 1 (some FieldType.boolean) : Cond) ∈ lw_g := List.mem_filter.mpr ⟨List.mem_of_getElem? (i := 205) (by decide +kernel), by decide +kernel⟩
theorem wq206 : (.methodLink "AppletFirewall" 82 ⟨"AppletFirewall$Memory", "undo", "()Z"⟩ : Cond) ∈ lw_g := List.mem_filter.mpr ⟨List.mem_of_getElem? (i := 206) (by decide +kernel), by decide +kernel⟩
theorem wq207 : (.instanceMethod ⟨"AppletFirewall$Memory", "undo", "()Z"⟩ : Cond) ∈ lw_g := List.mem_filter.mpr ⟨List.mem_of_getElem? (i := 207) (by decide +kernel), by decide +kernel⟩
theorem wq208 : (.selects "AppletFirewall$Memory" ⟨"AppletFirewall$Memory", "undo", "()Z"⟩ ⟨"AppletFirewall$Memory", "undo", "()Z"⟩ : Cond) ∈ lw_g := List.mem_filter.mpr ⟨List.mem_of_getElem? (i := 208) (by decide +kernel), by decide +kernel⟩
theorem wq209 : (.code ⟨"AppletFirewall$Memory", "undo", "()Z"⟩ prog_5_method_9_code 3 (some FieldType.boolean) : Cond) ∈ lw_g := List.mem_filter.mpr ⟨List.mem_of_getElem? (i := 209) (by decide +kernel), by decide +kernel⟩
theorem wq210 : (.methodLink "AppletFirewall$Memory" 25 ⟨"AppletFirewall$Memory", "count", "()I"⟩ : Cond) ∈ lw_g := List.mem_filter.mpr ⟨List.mem_of_getElem? (i := 210) (by decide +kernel), by decide +kernel⟩
theorem wq211 : (.instanceMethod ⟨"AppletFirewall$Memory", "count", "()I"⟩ : Cond) ∈ lw_g := List.mem_filter.mpr ⟨List.mem_of_getElem? (i := 211) (by decide +kernel), by decide +kernel⟩
theorem wq212 : (.selects "AppletFirewall$Memory" ⟨"AppletFirewall$Memory", "count", "()I"⟩ ⟨"AppletFirewall$Memory", "count", "()I"⟩ : Cond) ∈ lw_g := List.mem_filter.mpr ⟨List.mem_of_getElem? (i := 212) (by decide +kernel), by decide +kernel⟩
theorem wq213 : (.code ⟨"AppletFirewall$Memory", "count", "()I"⟩ prog_5_method_3_code 1 (some FieldType.int) : Cond) ∈ lw_g := List.mem_filter.mpr ⟨List.mem_of_getElem? (i := 213) (by decide +kernel), by decide +kernel⟩
theorem wq214 : (.methodLink "AppletFirewall$Memory" 29 ⟨"AppletFirewall$Memory", "write", "(II)Z"⟩ : Cond) ∈ lw_g := List.mem_filter.mpr ⟨List.mem_of_getElem? (i := 214) (by decide +kernel), by decide +kernel⟩
theorem wq215 : (.instanceMethod ⟨"AppletFirewall$Memory", "write", "(II)Z"⟩ : Cond) ∈ lw_g := List.mem_filter.mpr ⟨List.mem_of_getElem? (i := 215) (by decide +kernel), by decide +kernel⟩
theorem wq216 : (.selects "AppletFirewall$Memory" ⟨"AppletFirewall$Memory", "write", "(II)Z"⟩ ⟨"AppletFirewall$Memory", "write", "(II)Z"⟩ : Cond) ∈ lw_g := List.mem_filter.mpr ⟨List.mem_of_getElem? (i := 216) (by decide +kernel), by decide +kernel⟩
theorem wq217 : (.code ⟨"AppletFirewall$Memory", "write", "(II)Z"⟩ prog_5_method_7_code 3 (some FieldType.boolean) : Cond) ∈ lw_g := List.mem_filter.mpr ⟨List.mem_of_getElem? (i := 217) (by decide +kernel), by decide +kernel⟩
theorem wq218 : (.methodLink "AppletFirewall$Memory" 33 ⟨"AppletFirewall$Memory", "settle", "()Z"⟩ : Cond) ∈ lw_g := List.mem_filter.mpr ⟨List.mem_of_getElem? (i := 218) (by decide +kernel), by decide +kernel⟩
theorem wq219 : (.instanceMethod ⟨"AppletFirewall$Memory", "settle", "()Z"⟩ : Cond) ∈ lw_g := List.mem_filter.mpr ⟨List.mem_of_getElem? (i := 219) (by decide +kernel), by decide +kernel⟩
theorem wq220 : (.selects "AppletFirewall$Memory" ⟨"AppletFirewall$Memory", "settle", "()Z"⟩ ⟨"AppletFirewall$Memory", "settle", "()Z"⟩ : Cond) ∈ lw_g := List.mem_filter.mpr ⟨List.mem_of_getElem? (i := 220) (by decide +kernel), by decide +kernel⟩
theorem wq221 : (.code ⟨"AppletFirewall$Memory", "settle", "()Z"⟩ prog_5_method_10_code 1 (some FieldType.boolean) : Cond) ∈ lw_g := List.mem_filter.mpr ⟨List.mem_of_getElem? (i := 221) (by decide +kernel), by decide +kernel⟩
theorem wq222 : (.methodLink "AppletFirewall" 101 ⟨"AppletFirewall", "triesPlace", "(I)I"⟩ : Cond) ∈ lw_g := List.mem_filter.mpr ⟨List.mem_of_getElem? (i := 222) (by decide +kernel), by decide +kernel⟩
theorem wq223 : (.static ⟨"AppletFirewall", "triesPlace", "(I)I"⟩ : Cond) ∈ lw_g := List.mem_filter.mpr ⟨List.mem_of_getElem? (i := 223) (by decide +kernel), by decide +kernel⟩
theorem wq224 : (.code ⟨"AppletFirewall", "triesPlace", "(I)I"⟩ prog_1_method_42_code 1 (some FieldType.int) : Cond) ∈ lw_g := List.mem_filter.mpr ⟨List.mem_of_getElem? (i := 224) (by decide +kernel), by decide +kernel⟩
theorem wq225 : (.methodLink "AppletFirewall" 195 ⟨"AppletFirewall", "respond", "(II)I"⟩ : Cond) ∈ lw_g := List.mem_filter.mpr ⟨List.mem_of_getElem? (i := 225) (by decide +kernel), by decide +kernel⟩
theorem wq227 : (.instanceMethod ⟨"AppletFirewall", "respond", "(II)I"⟩ : Cond) ∈ lw_g := List.mem_filter.mpr ⟨List.mem_of_getElem? (i := 227) (by decide +kernel), by decide +kernel⟩
theorem wq228 : (.code ⟨"AppletFirewall", "respond", "(II)I"⟩ prog_1_method_31_code 4 (some FieldType.int) : Cond) ∈ lw_g := List.mem_filter.mpr ⟨List.mem_of_getElem? (i := 228) (by decide +kernel), by decide +kernel⟩
theorem wq229 : (.methodLink "AppletFirewall" 97 ⟨"AppletFirewall$Memory", "at", "(I)I"⟩ : Cond) ∈ lw_g := List.mem_filter.mpr ⟨List.mem_of_getElem? (i := 229) (by decide +kernel), by decide +kernel⟩
theorem wq230 : (.instanceMethod ⟨"AppletFirewall$Memory", "at", "(I)I"⟩ : Cond) ∈ lw_g := List.mem_filter.mpr ⟨List.mem_of_getElem? (i := 230) (by decide +kernel), by decide +kernel⟩
theorem wq231 : (.selects "AppletFirewall$Memory" ⟨"AppletFirewall$Memory", "at", "(I)I"⟩ ⟨"AppletFirewall$Memory", "at", "(I)I"⟩ : Cond) ∈ lw_g := List.mem_filter.mpr ⟨List.mem_of_getElem? (i := 231) (by decide +kernel), by decide +kernel⟩
theorem wq232 : (.code ⟨"AppletFirewall$Memory", "at", "(I)I"⟩ prog_5_method_2_code 2 (some FieldType.int) : Cond) ∈ lw_g := List.mem_filter.mpr ⟨List.mem_of_getElem? (i := 232) (by decide +kernel), by decide +kernel⟩
theorem wq233 : (.methodLink "AppletFirewall" 156 ⟨"AppletFirewall", "verify", "()I"⟩ : Cond) ∈ lw_g := List.mem_filter.mpr ⟨List.mem_of_getElem? (i := 233) (by decide +kernel), by decide +kernel⟩
theorem wq235 : (.instanceMethod ⟨"AppletFirewall", "verify", "()I"⟩ : Cond) ∈ lw_g := List.mem_filter.mpr ⟨List.mem_of_getElem? (i := 235) (by decide +kernel), by decide +kernel⟩
theorem wq236 : (.code ⟨"AppletFirewall", "verify", "()I"⟩ prog_1_method_20_code 3 (some FieldType.int) : Cond) ∈ lw_g := List.mem_filter.mpr ⟨List.mem_of_getElem? (i := 236) (by decide +kernel), by decide +kernel⟩
theorem wq237 : (.methodLink "AppletFirewall" 198 ⟨"AppletFirewall$Memory", "write", "(II)Z"⟩ : Cond) ∈ lw_g := List.mem_filter.mpr ⟨List.mem_of_getElem? (i := 237) (by decide +kernel), by decide +kernel⟩
theorem wq238 : (.methodLink "AppletFirewall" 201 ⟨"AppletFirewall", "payloadIsSecret", "()Z"⟩ : Cond) ∈ lw_g := List.mem_filter.mpr ⟨List.mem_of_getElem? (i := 238) (by decide +kernel), by decide +kernel⟩
theorem wq240 : (.instanceMethod ⟨"AppletFirewall", "payloadIsSecret", "()Z"⟩ : Cond) ∈ lw_g := List.mem_filter.mpr ⟨List.mem_of_getElem? (i := 240) (by decide +kernel), by decide +kernel⟩
theorem wq241 : (.code ⟨"AppletFirewall", "payloadIsSecret", "()Z"⟩ prog_1_method_21_code 3 (some FieldType.boolean) : Cond) ∈ lw_g := List.mem_filter.mpr ⟨List.mem_of_getElem? (i := 241) (by decide +kernel), by decide +kernel⟩
theorem wq242 : (.methodLink "AppletFirewall" 159 ⟨"AppletFirewall", "secretPlace", "(I)I"⟩ : Cond) ∈ lw_g := List.mem_filter.mpr ⟨List.mem_of_getElem? (i := 242) (by decide +kernel), by decide +kernel⟩
theorem wq243 : (.static ⟨"AppletFirewall", "secretPlace", "(I)I"⟩ : Cond) ∈ lw_g := List.mem_filter.mpr ⟨List.mem_of_getElem? (i := 243) (by decide +kernel), by decide +kernel⟩
theorem wq244 : (.code ⟨"AppletFirewall", "secretPlace", "(I)I"⟩ prog_1_method_41_code 1 (some FieldType.int) : Cond) ∈ lw_g := List.mem_filter.mpr ⟨List.mem_of_getElem? (i := 244) (by decide +kernel), by decide +kernel⟩
theorem wq245 : (.methodLink "AppletFirewall" 162 ⟨"AppletFirewall", "storePayload", "(I)I"⟩ : Cond) ∈ lw_g := List.mem_filter.mpr ⟨List.mem_of_getElem? (i := 245) (by decide +kernel), by decide +kernel⟩
theorem wq247 : (.instanceMethod ⟨"AppletFirewall", "storePayload", "(I)I"⟩ : Cond) ∈ lw_g := List.mem_filter.mpr ⟨List.mem_of_getElem? (i := 247) (by decide +kernel), by decide +kernel⟩
theorem wq248 : (.code ⟨"AppletFirewall", "storePayload", "(I)I"⟩ prog_1_method_32_code 2 (some FieldType.int) : Cond) ∈ lw_g := List.mem_filter.mpr ⟨List.mem_of_getElem? (i := 248) (by decide +kernel), by decide +kernel⟩
theorem wq249 : (.methodLink "AppletFirewall" 230 ⟨"AppletFirewall$Input", "row", "()[I"⟩ : Cond) ∈ lw_g := List.mem_filter.mpr ⟨List.mem_of_getElem? (i := 249) (by decide +kernel), by decide +kernel⟩
theorem wq250 : (.instanceMethod ⟨"AppletFirewall$Input", "row", "()[I"⟩ : Cond) ∈ lw_g := List.mem_filter.mpr ⟨List.mem_of_getElem? (i := 250) (by decide +kernel), by decide +kernel⟩
theorem wq251 : (.selects "AppletFirewall$Input" ⟨"AppletFirewall$Input", "row", "()[I"⟩ ⟨"AppletFirewall$Input", "row", "()[I"⟩ : Cond) ∈ lw_g := List.mem_filter.mpr ⟨List.mem_of_getElem? (i := 251) (by decide +kernel), by decide +kernel⟩
theorem wq252 : (.code ⟨"AppletFirewall$Input", "row", "()[I"⟩ prog_3_method_13_code 1 (some (FieldType.array FieldType.int)) : Cond) ∈ lw_g := List.mem_filter.mpr ⟨List.mem_of_getElem? (i := 252) (by decide +kernel), by decide +kernel⟩
theorem wq253 : (.methodLink "AppletFirewall" 220 ⟨"AppletFirewall", "store", "(I[III)I"⟩ : Cond) ∈ lw_g := List.mem_filter.mpr ⟨List.mem_of_getElem? (i := 253) (by decide +kernel), by decide +kernel⟩
theorem wq255 : (.instanceMethod ⟨"AppletFirewall", "store", "(I[III)I"⟩ : Cond) ∈ lw_g := List.mem_filter.mpr ⟨List.mem_of_getElem? (i := 255) (by decide +kernel), by decide +kernel⟩
theorem wq256 : (.code ⟨"AppletFirewall", "store", "(I[III)I"⟩ prog_1_method_33_code 6 (some FieldType.int) : Cond) ∈ lw_g := List.mem_filter.mpr ⟨List.mem_of_getElem? (i := 256) (by decide +kernel), by decide +kernel⟩
theorem wq257 : (.methodLink "AppletFirewall" 79 ⟨"AppletFirewall$Memory", "count", "()I"⟩ : Cond) ∈ lw_g := List.mem_filter.mpr ⟨List.mem_of_getElem? (i := 257) (by decide +kernel), by decide +kernel⟩
theorem wq258 : (.methodLink "AppletFirewall" 234 ⟨"AppletFirewall$Memory", "change", "(II)Z"⟩ : Cond) ∈ lw_g := List.mem_filter.mpr ⟨List.mem_of_getElem? (i := 258) (by decide +kernel), by decide +kernel⟩
theorem wq259 : (.instanceMethod ⟨"AppletFirewall$Memory", "change", "(II)Z"⟩ : Cond) ∈ lw_g := List.mem_filter.mpr ⟨List.mem_of_getElem? (i := 259) (by decide +kernel), by decide +kernel⟩
theorem wq260 : (.selects "AppletFirewall$Memory" ⟨"AppletFirewall$Memory", "change", "(II)Z"⟩ ⟨"AppletFirewall$Memory", "change", "(II)Z"⟩ : Cond) ∈ lw_g := List.mem_filter.mpr ⟨List.mem_of_getElem? (i := 260) (by decide +kernel), by decide +kernel⟩
theorem wq261 : (.code ⟨"AppletFirewall$Memory", "change", "(II)Z"⟩ prog_5_method_8_code 4 (some FieldType.boolean) : Cond) ∈ lw_g := List.mem_filter.mpr ⟨List.mem_of_getElem? (i := 261) (by decide +kernel), by decide +kernel⟩
theorem wq262 : (.methodLink "AppletFirewall" 211 ⟨"AppletFirewall$Memory", "settle", "()Z"⟩ : Cond) ∈ lw_g := List.mem_filter.mpr ⟨List.mem_of_getElem? (i := 262) (by decide +kernel), by decide +kernel⟩
theorem wq263 : (.methodLink "AppletFirewall" 204 ⟨"AppletFirewall", "doneIf", "(Z)I"⟩ : Cond) ∈ lw_g := List.mem_filter.mpr ⟨List.mem_of_getElem? (i := 263) (by decide +kernel), by decide +kernel⟩
theorem wq264 : (.static ⟨"AppletFirewall", "doneIf", "(Z)I"⟩ : Cond) ∈ lw_g := List.mem_filter.mpr ⟨List.mem_of_getElem? (i := 264) (by decide +kernel), by decide +kernel⟩
theorem wq265 : (.code ⟨"AppletFirewall", "doneIf", "(Z)I"⟩ prog_1_method_34_code 1 (some FieldType.int) : Cond) ∈ lw_g := List.mem_filter.mpr ⟨List.mem_of_getElem? (i := 265) (by decide +kernel), by decide +kernel⟩
theorem wq266 : (.methodLink "AppletFirewall" 165 ⟨"AppletFirewall", "unblock", "()I"⟩ : Cond) ∈ lw_g := List.mem_filter.mpr ⟨List.mem_of_getElem? (i := 266) (by decide +kernel), by decide +kernel⟩
theorem wq268 : (.instanceMethod ⟨"AppletFirewall", "unblock", "()I"⟩ : Cond) ∈ lw_g := List.mem_filter.mpr ⟨List.mem_of_getElem? (i := 268) (by decide +kernel), by decide +kernel⟩
theorem wq269 : (.code ⟨"AppletFirewall", "unblock", "()I"⟩ prog_1_method_22_code 1 (some FieldType.int) : Cond) ∈ lw_g := List.mem_filter.mpr ⟨List.mem_of_getElem? (i := 269) (by decide +kernel), by decide +kernel⟩
theorem wq270 : (.methodLink "AppletFirewall" 168 ⟨"AppletFirewall", "read", "()I"⟩ : Cond) ∈ lw_g := List.mem_filter.mpr ⟨List.mem_of_getElem? (i := 270) (by decide +kernel), by decide +kernel⟩
theorem wq272 : (.instanceMethod ⟨"AppletFirewall", "read", "()I"⟩ : Cond) ∈ lw_g := List.mem_filter.mpr ⟨List.mem_of_getElem? (i := 272) (by decide +kernel), by decide +kernel⟩
theorem wq273 : (.code ⟨"AppletFirewall", "read", "()I"⟩ prog_1_method_23_code 1 (some FieldType.int) : Cond) ∈ lw_g := List.mem_filter.mpr ⟨List.mem_of_getElem? (i := 273) (by decide +kernel), by decide +kernel⟩
theorem wq274 : (.methodLink "AppletFirewall" 208 ⟨"AppletFirewall$Input", "le", "()I"⟩ : Cond) ∈ lw_g := List.mem_filter.mpr ⟨List.mem_of_getElem? (i := 274) (by decide +kernel), by decide +kernel⟩
theorem wq275 : (.instanceMethod ⟨"AppletFirewall$Input", "le", "()I"⟩ : Cond) ∈ lw_g := List.mem_filter.mpr ⟨List.mem_of_getElem? (i := 275) (by decide +kernel), by decide +kernel⟩
theorem wq276 : (.selects "AppletFirewall$Input" ⟨"AppletFirewall$Input", "le", "()I"⟩ ⟨"AppletFirewall$Input", "le", "()I"⟩ : Cond) ∈ lw_g := List.mem_filter.mpr ⟨List.mem_of_getElem? (i := 276) (by decide +kernel), by decide +kernel⟩
theorem wq277 : (.code ⟨"AppletFirewall$Input", "le", "()I"⟩ prog_3_method_11_code 1 (some FieldType.int) : Cond) ∈ lw_g := List.mem_filter.mpr ⟨List.mem_of_getElem? (i := 277) (by decide +kernel), by decide +kernel⟩
theorem wq278 : (.methodLink "AppletFirewall" 93 ⟨"AppletFirewall", "dataPlace", "(II)I"⟩ : Cond) ∈ lw_g := List.mem_filter.mpr ⟨List.mem_of_getElem? (i := 278) (by decide +kernel), by decide +kernel⟩
theorem wq279 : (.static ⟨"AppletFirewall", "dataPlace", "(II)I"⟩ : Cond) ∈ lw_g := List.mem_filter.mpr ⟨List.mem_of_getElem? (i := 279) (by decide +kernel), by decide +kernel⟩
theorem wq280 : (.code ⟨"AppletFirewall", "dataPlace", "(II)I"⟩ prog_1_method_40_code 2 (some FieldType.int) : Cond) ∈ lw_g := List.mem_filter.mpr ⟨List.mem_of_getElem? (i := 280) (by decide +kernel), by decide +kernel⟩
theorem wq281 : (.methodLink "AppletFirewall" 171 ⟨"AppletFirewall", "update", "()I"⟩ : Cond) ∈ lw_g := List.mem_filter.mpr ⟨List.mem_of_getElem? (i := 281) (by decide +kernel), by decide +kernel⟩
theorem wq283 : (.instanceMethod ⟨"AppletFirewall", "update", "()I"⟩ : Cond) ∈ lw_g := List.mem_filter.mpr ⟨List.mem_of_getElem? (i := 283) (by decide +kernel), by decide +kernel⟩
theorem wq284 : (.code ⟨"AppletFirewall", "update", "()I"⟩ prog_1_method_24_code 1 (some FieldType.int) : Cond) ∈ lw_g := List.mem_filter.mpr ⟨List.mem_of_getElem? (i := 284) (by decide +kernel), by decide +kernel⟩
theorem wq285 : (.methodLink "AppletFirewall" 174 ⟨"AppletFirewall", "begin", "()I"⟩ : Cond) ∈ lw_g := List.mem_filter.mpr ⟨List.mem_of_getElem? (i := 285) (by decide +kernel), by decide +kernel⟩
theorem wq287 : (.instanceMethod ⟨"AppletFirewall", "begin", "()I"⟩ : Cond) ∈ lw_g := List.mem_filter.mpr ⟨List.mem_of_getElem? (i := 287) (by decide +kernel), by decide +kernel⟩
theorem wq288 : (.code ⟨"AppletFirewall", "begin", "()I"⟩ prog_1_method_25_code 1 (some FieldType.int) : Cond) ∈ lw_g := List.mem_filter.mpr ⟨List.mem_of_getElem? (i := 288) (by decide +kernel), by decide +kernel⟩
theorem wq289 : (.methodLink "AppletFirewall" 177 ⟨"AppletFirewall", "end", "()I"⟩ : Cond) ∈ lw_g := List.mem_filter.mpr ⟨List.mem_of_getElem? (i := 289) (by decide +kernel), by decide +kernel⟩
theorem wq291 : (.instanceMethod ⟨"AppletFirewall", "end", "()I"⟩ : Cond) ∈ lw_g := List.mem_filter.mpr ⟨List.mem_of_getElem? (i := 291) (by decide +kernel), by decide +kernel⟩
theorem wq292 : (.code ⟨"AppletFirewall", "end", "()I"⟩ prog_1_method_26_code 2 (some FieldType.int) : Cond) ∈ lw_g := List.mem_filter.mpr ⟨List.mem_of_getElem? (i := 292) (by decide +kernel), by decide +kernel⟩
theorem wq293 : (.methodLink "AppletFirewall" 180 ⟨"AppletFirewall", "grant", "()I"⟩ : Cond) ∈ lw_g := List.mem_filter.mpr ⟨List.mem_of_getElem? (i := 293) (by decide +kernel), by decide +kernel⟩
theorem wq295 : (.instanceMethod ⟨"AppletFirewall", "grant", "()I"⟩ : Cond) ∈ lw_g := List.mem_filter.mpr ⟨List.mem_of_getElem? (i := 295) (by decide +kernel), by decide +kernel⟩
theorem wq296 : (.code ⟨"AppletFirewall", "grant", "()I"⟩ prog_1_method_27_code 6 (some FieldType.int) : Cond) ∈ lw_g := List.mem_filter.mpr ⟨List.mem_of_getElem? (i := 296) (by decide +kernel), by decide +kernel⟩
theorem wq297 : (.methodLink "AppletFirewall" 214 ⟨"AppletFirewall", "ownerOf", "(I)I"⟩ : Cond) ∈ lw_g := List.mem_filter.mpr ⟨List.mem_of_getElem? (i := 297) (by decide +kernel), by decide +kernel⟩
theorem wq299 : (.instanceMethod ⟨"AppletFirewall", "ownerOf", "(I)I"⟩ : Cond) ∈ lw_g := List.mem_filter.mpr ⟨List.mem_of_getElem? (i := 299) (by decide +kernel), by decide +kernel⟩
theorem wq300 : (.code ⟨"AppletFirewall", "ownerOf", "(I)I"⟩ prog_1_method_35_code 3 (some FieldType.int) : Cond) ∈ lw_g := List.mem_filter.mpr ⟨List.mem_of_getElem? (i := 300) (by decide +kernel), by decide +kernel⟩
theorem wq301 : (.methodLink "AppletFirewall" 104 ⟨"AppletFirewall", "shareByte", "(II)I"⟩ : Cond) ∈ lw_g := List.mem_filter.mpr ⟨List.mem_of_getElem? (i := 301) (by decide +kernel), by decide +kernel⟩
theorem wq303 : (.instanceMethod ⟨"AppletFirewall", "shareByte", "(II)I"⟩ : Cond) ∈ lw_g := List.mem_filter.mpr ⟨List.mem_of_getElem? (i := 303) (by decide +kernel), by decide +kernel⟩
theorem wq304 : (.code ⟨"AppletFirewall", "shareByte", "(II)I"⟩ prog_1_method_37_code 3 (some FieldType.int) : Cond) ∈ lw_g := List.mem_filter.mpr ⟨List.mem_of_getElem? (i := 304) (by decide +kernel), by decide +kernel⟩
theorem wq305 : (.methodLink "AppletFirewall" 217 ⟨"AppletFirewall", "sharePlace", "(I)I"⟩ : Cond) ∈ lw_g := List.mem_filter.mpr ⟨List.mem_of_getElem? (i := 305) (by decide +kernel), by decide +kernel⟩
theorem wq306 : (.static ⟨"AppletFirewall", "sharePlace", "(I)I"⟩ : Cond) ∈ lw_g := List.mem_filter.mpr ⟨List.mem_of_getElem? (i := 306) (by decide +kernel), by decide +kernel⟩
theorem wq307 : (.code ⟨"AppletFirewall", "sharePlace", "(I)I"⟩ prog_1_method_43_code 1 (some FieldType.int) : Cond) ∈ lw_g := List.mem_filter.mpr ⟨List.mem_of_getElem? (i := 307) (by decide +kernel), by decide +kernel⟩
theorem wq308 : (.methodLink "AppletFirewall" 183 ⟨"AppletFirewall", "revoke", "()I"⟩ : Cond) ∈ lw_g := List.mem_filter.mpr ⟨List.mem_of_getElem? (i := 308) (by decide +kernel), by decide +kernel⟩
theorem wq310 : (.instanceMethod ⟨"AppletFirewall", "revoke", "()I"⟩ : Cond) ∈ lw_g := List.mem_filter.mpr ⟨List.mem_of_getElem? (i := 310) (by decide +kernel), by decide +kernel⟩
theorem wq311 : (.code ⟨"AppletFirewall", "revoke", "()I"⟩ prog_1_method_28_code 2 (some FieldType.int) : Cond) ∈ lw_g := List.mem_filter.mpr ⟨List.mem_of_getElem? (i := 311) (by decide +kernel), by decide +kernel⟩
theorem wq312 : (.methodLink "AppletFirewall" 186 ⟨"AppletFirewall", "readShared", "()I"⟩ : Cond) ∈ lw_g := List.mem_filter.mpr ⟨List.mem_of_getElem? (i := 312) (by decide +kernel), by decide +kernel⟩
theorem wq314 : (.instanceMethod ⟨"AppletFirewall", "readShared", "()I"⟩ : Cond) ∈ lw_g := List.mem_filter.mpr ⟨List.mem_of_getElem? (i := 314) (by decide +kernel), by decide +kernel⟩
theorem wq315 : (.code ⟨"AppletFirewall", "readShared", "()I"⟩ prog_1_method_29_code 2 (some FieldType.int) : Cond) ∈ lw_g := List.mem_filter.mpr ⟨List.mem_of_getElem? (i := 315) (by decide +kernel), by decide +kernel⟩
theorem wq316 : (.methodLink "AppletFirewall" 224 ⟨"AppletFirewall", "clientOf", "(I)I"⟩ : Cond) ∈ lw_g := List.mem_filter.mpr ⟨List.mem_of_getElem? (i := 316) (by decide +kernel), by decide +kernel⟩
theorem wq318 : (.instanceMethod ⟨"AppletFirewall", "clientOf", "(I)I"⟩ : Cond) ∈ lw_g := List.mem_filter.mpr ⟨List.mem_of_getElem? (i := 318) (by decide +kernel), by decide +kernel⟩
theorem wq319 : (.code ⟨"AppletFirewall", "clientOf", "(I)I"⟩ prog_1_method_36_code 3 (some FieldType.int) : Cond) ∈ lw_g := List.mem_filter.mpr ⟨List.mem_of_getElem? (i := 319) (by decide +kernel), by decide +kernel⟩
theorem wq320 : (.methodLink "AppletFirewall" 227 ⟨"AppletFirewall", "sharedPlace", "(II)I"⟩ : Cond) ∈ lw_g := List.mem_filter.mpr ⟨List.mem_of_getElem? (i := 320) (by decide +kernel), by decide +kernel⟩
theorem wq322 : (.instanceMethod ⟨"AppletFirewall", "sharedPlace", "(II)I"⟩ : Cond) ∈ lw_g := List.mem_filter.mpr ⟨List.mem_of_getElem? (i := 322) (by decide +kernel), by decide +kernel⟩
theorem wq323 : (.code ⟨"AppletFirewall", "sharedPlace", "(II)I"⟩ prog_1_method_38_code 3 (some FieldType.int) : Cond) ∈ lw_g := List.mem_filter.mpr ⟨List.mem_of_getElem? (i := 323) (by decide +kernel), by decide +kernel⟩
theorem wq324 : (.methodLink "AppletFirewall" 189 ⟨"AppletFirewall", "updateShared", "()I"⟩ : Cond) ∈ lw_g := List.mem_filter.mpr ⟨List.mem_of_getElem? (i := 324) (by decide +kernel), by decide +kernel⟩
theorem wq326 : (.instanceMethod ⟨"AppletFirewall", "updateShared", "()I"⟩ : Cond) ∈ lw_g := List.mem_filter.mpr ⟨List.mem_of_getElem? (i := 326) (by decide +kernel), by decide +kernel⟩
theorem wq327 : (.code ⟨"AppletFirewall", "updateShared", "()I"⟩ prog_1_method_30_code 2 (some FieldType.int) : Cond) ∈ lw_g := List.mem_filter.mpr ⟨List.mem_of_getElem? (i := 327) (by decide +kernel), by decide +kernel⟩
theorem wq328 : (.methodLink "AppletFirewall" 63 ⟨"AppletFirewall$Input", "clear", "()V"⟩ : Cond) ∈ lw_g := List.mem_filter.mpr ⟨List.mem_of_getElem? (i := 328) (by decide +kernel), by decide +kernel⟩
theorem wq329 : (.instanceMethod ⟨"AppletFirewall$Input", "clear", "()V"⟩ : Cond) ∈ lw_g := List.mem_filter.mpr ⟨List.mem_of_getElem? (i := 329) (by decide +kernel), by decide +kernel⟩
theorem wq330 : (.selects "AppletFirewall$Input" ⟨"AppletFirewall$Input", "clear", "()V"⟩ ⟨"AppletFirewall$Input", "clear", "()V"⟩ : Cond) ∈ lw_g := List.mem_filter.mpr ⟨List.mem_of_getElem? (i := 330) (by decide +kernel), by decide +kernel⟩
theorem wq331 : (.code ⟨"AppletFirewall$Input", "clear", "()V"⟩ prog_3_method_3_code 1 none : Cond) ∈ lw_g := List.mem_filter.mpr ⟨List.mem_of_getElem? (i := 331) (by decide +kernel), by decide +kernel⟩
theorem wq332 : (.methodLink "AppletFirewall" 66 ⟨"AppletFirewall", "switchOff", "()V"⟩ : Cond) ∈ lw_g := List.mem_filter.mpr ⟨List.mem_of_getElem? (i := 332) (by decide +kernel), by decide +kernel⟩
theorem wq334 : (.instanceMethod ⟨"AppletFirewall", "switchOff", "()V"⟩ : Cond) ∈ lw_g := List.mem_filter.mpr ⟨List.mem_of_getElem? (i := 334) (by decide +kernel), by decide +kernel⟩
theorem wq335 : (.code ⟨"AppletFirewall", "switchOff", "()V"⟩ prog_1_method_16_code 1 none : Cond) ∈ lw_g := List.mem_filter.mpr ⟨List.mem_of_getElem? (i := 335) (by decide +kernel), by decide +kernel⟩
theorem wq340 : (.methodLink "AppletFirewall" 69 ⟨"AppletFirewall$Input", "size", "()I"⟩ : Cond) ∈ lw_g := List.mem_filter.mpr ⟨List.mem_of_getElem? (i := 340) (by decide +kernel), by decide +kernel⟩
theorem wq341 : (.instanceMethod ⟨"AppletFirewall$Input", "size", "()I"⟩ : Cond) ∈ lw_g := List.mem_filter.mpr ⟨List.mem_of_getElem? (i := 341) (by decide +kernel), by decide +kernel⟩
theorem wq342 : (.selects "AppletFirewall$Input" ⟨"AppletFirewall$Input", "size", "()I"⟩ ⟨"AppletFirewall$Input", "size", "()I"⟩ : Cond) ∈ lw_g := List.mem_filter.mpr ⟨List.mem_of_getElem? (i := 342) (by decide +kernel), by decide +kernel⟩
theorem wq343 : (.code ⟨"AppletFirewall$Input", "size", "()I"⟩ prog_3_method_4_code 1 (some FieldType.int) : Cond) ∈ lw_g := List.mem_filter.mpr ⟨List.mem_of_getElem? (i := 343) (by decide +kernel), by decide +kernel⟩
theorem wq356 : (.methodLink "AppletFirewall" 72 ⟨"AppletFirewall$Memory", "failed", "()I"⟩ : Cond) ∈ lw_g := List.mem_filter.mpr ⟨List.mem_of_getElem? (i := 356) (by decide +kernel), by decide +kernel⟩
theorem wq357 : (.instanceMethod ⟨"AppletFirewall$Memory", "failed", "()I"⟩ : Cond) ∈ lw_g := List.mem_filter.mpr ⟨List.mem_of_getElem? (i := 357) (by decide +kernel), by decide +kernel⟩
theorem wq358 : (.selects "AppletFirewall$Memory" ⟨"AppletFirewall$Memory", "failed", "()I"⟩ ⟨"AppletFirewall$Memory", "failed", "()I"⟩ : Cond) ∈ lw_g := List.mem_filter.mpr ⟨List.mem_of_getElem? (i := 358) (by decide +kernel), by decide +kernel⟩
theorem wq359 : (.code ⟨"AppletFirewall$Memory", "failed", "()I"⟩ prog_5_method_5_code 1 (some FieldType.int) : Cond) ∈ lw_g := List.mem_filter.mpr ⟨List.mem_of_getElem? (i := 359) (by decide +kernel), by decide +kernel⟩
theorem wq360 : (.methodLink "AppletFirewall" 75 ⟨"AppletFirewall$Memory", "arm", "(I)V"⟩ : Cond) ∈ lw_g := List.mem_filter.mpr ⟨List.mem_of_getElem? (i := 360) (by decide +kernel), by decide +kernel⟩
theorem wq361 : (.instanceMethod ⟨"AppletFirewall$Memory", "arm", "(I)V"⟩ : Cond) ∈ lw_g := List.mem_filter.mpr ⟨List.mem_of_getElem? (i := 361) (by decide +kernel), by decide +kernel⟩
theorem wq362 : (.selects "AppletFirewall$Memory" ⟨"AppletFirewall$Memory", "arm", "(I)V"⟩ ⟨"AppletFirewall$Memory", "arm", "(I)V"⟩ : Cond) ∈ lw_g := List.mem_filter.mpr ⟨List.mem_of_getElem? (i := 362) (by decide +kernel), by decide +kernel⟩
theorem wq363 : (.code ⟨"AppletFirewall$Memory", "arm", "(I)V"⟩ prog_5_method_6_code 2 none : Cond) ∈ lw_g := List.mem_filter.mpr ⟨List.mem_of_getElem? (i := 363) (by decide +kernel), by decide +kernel⟩
theorem wq372 : (.methodLink "AppletFirewall" 86 ⟨"AppletFirewall$Memory", "written", "()I"⟩ : Cond) ∈ lw_g := List.mem_filter.mpr ⟨List.mem_of_getElem? (i := 372) (by decide +kernel), by decide +kernel⟩
theorem wq373 : (.instanceMethod ⟨"AppletFirewall$Memory", "written", "()I"⟩ : Cond) ∈ lw_g := List.mem_filter.mpr ⟨List.mem_of_getElem? (i := 373) (by decide +kernel), by decide +kernel⟩
theorem wq374 : (.selects "AppletFirewall$Memory" ⟨"AppletFirewall$Memory", "written", "()I"⟩ ⟨"AppletFirewall$Memory", "written", "()I"⟩ : Cond) ∈ lw_g := List.mem_filter.mpr ⟨List.mem_of_getElem? (i := 374) (by decide +kernel), by decide +kernel⟩
theorem wq375 : (.code ⟨"AppletFirewall$Memory", "written", "()I"⟩ prog_5_method_4_code 1 (some FieldType.int) : Cond) ∈ lw_g := List.mem_filter.mpr ⟨List.mem_of_getElem? (i := 375) (by decide +kernel), by decide +kernel⟩
theorem wq405 : (.methodLink "AppletFirewallModel" 1 ⟨"java/lang/Object", "<init>", "()V"⟩ : Cond) ∈ lw_g := List.mem_filter.mpr ⟨List.mem_of_getElem? (i := 405) (by decide +kernel), by decide +kernel⟩
theorem wq406 : (.fieldLink "AppletFirewallModel" 7 "AppletFirewallModel" "memory" "[I" : Cond) ∈ lw_g := List.mem_filter.mpr ⟨List.mem_of_getElem? (i := 406) (by decide +kernel), by decide +kernel⟩
theorem wq407 : (.fieldLink "AppletFirewallModel" 13 "AppletFirewallModel" "before" "[I" : Cond) ∈ lw_g := List.mem_filter.mpr ⟨List.mem_of_getElem? (i := 407) (by decide +kernel), by decide +kernel⟩
theorem wq408 : (.fieldLink "AppletFirewallModel" 16 "AppletFirewallModel" "left" "[I" : Cond) ∈ lw_g := List.mem_filter.mpr ⟨List.mem_of_getElem? (i := 408) (by decide +kernel), by decide +kernel⟩
theorem wq409 : (.fieldLink "AppletFirewallModel" 64 "AppletFirewallModel" "count" "I" : Cond) ∈ lw_g := List.mem_filter.mpr ⟨List.mem_of_getElem? (i := 409) (by decide +kernel), by decide +kernel⟩
theorem wq410 : (.fieldLink "AppletFirewallModel" 57 "AppletFirewallModel" "done" "I" : Cond) ∈ lw_g := List.mem_filter.mpr ⟨List.mem_of_getElem? (i := 410) (by decide +kernel), by decide +kernel⟩
theorem wq411 : (.fieldLink "AppletFirewallModel" 51 "AppletFirewallModel" "failed" "I" : Cond) ∈ lw_g := List.mem_filter.mpr ⟨List.mem_of_getElem? (i := 411) (by decide +kernel), by decide +kernel⟩
theorem wq412 : (.fieldLink "AppletFirewallModel" 45 "AppletFirewallModel" "armed" "Z" : Cond) ∈ lw_g := List.mem_filter.mpr ⟨List.mem_of_getElem? (i := 412) (by decide +kernel), by decide +kernel⟩
theorem wq413 : (.fieldLink "AppletFirewallModel" 48 "AppletFirewallModel" "fuse" "I" : Cond) ∈ lw_g := List.mem_filter.mpr ⟨List.mem_of_getElem? (i := 413) (by decide +kernel), by decide +kernel⟩
theorem wq414 : (.fieldLink "AppletFirewallModel" 19 "AppletFirewallModel" "on" "Z" : Cond) ∈ lw_g := List.mem_filter.mpr ⟨List.mem_of_getElem? (i := 414) (by decide +kernel), by decide +kernel⟩
theorem wq415 : (.fieldLink "AppletFirewallModel" 23 "AppletFirewallModel" "selected" "I" : Cond) ∈ lw_g := List.mem_filter.mpr ⟨List.mem_of_getElem? (i := 415) (by decide +kernel), by decide +kernel⟩
theorem wq416 : (.fieldLink "AppletFirewallModel" 33 "AppletFirewallModel" "verified" "Z" : Cond) ∈ lw_g := List.mem_filter.mpr ⟨List.mem_of_getElem? (i := 416) (by decide +kernel), by decide +kernel⟩
theorem wq417 : (.fieldLink "AppletFirewallModel" 36 "AppletFirewallModel" "open" "Z" : Cond) ∈ lw_g := List.mem_filter.mpr ⟨List.mem_of_getElem? (i := 417) (by decide +kernel), by decide +kernel⟩
theorem wq418 : (.fieldLink "AppletFirewallModel" 27 "AppletFirewallModel" "in" "[I" : Cond) ∈ lw_g := List.mem_filter.mpr ⟨List.mem_of_getElem? (i := 418) (by decide +kernel), by decide +kernel⟩
theorem wq419 : (.fieldLink "AppletFirewallModel" 39 "AppletFirewallModel" "size" "I" : Cond) ∈ lw_g := List.mem_filter.mpr ⟨List.mem_of_getElem? (i := 419) (by decide +kernel), by decide +kernel⟩
theorem wq420 : (.fieldLink "AppletFirewallModel" 30 "AppletFirewallModel" "out" "[I" : Cond) ∈ lw_g := List.mem_filter.mpr ⟨List.mem_of_getElem? (i := 420) (by decide +kernel), by decide +kernel⟩
theorem wq421 : (.fieldLink "AppletFirewallModel" 42 "AppletFirewallModel" "told" "I" : Cond) ∈ lw_g := List.mem_filter.mpr ⟨List.mem_of_getElem? (i := 421) (by decide +kernel), by decide +kernel⟩
theorem wq463 : (.methodLink "AppletFirewallModel" 54 ⟨"AppletFirewallModel", "forget", "()V"⟩ : Cond) ∈ lw_g := List.mem_filter.mpr ⟨List.mem_of_getElem? (i := 463) (by decide +kernel), by decide +kernel⟩
theorem wq465 : (.instanceMethod ⟨"AppletFirewallModel", "forget", "()V"⟩ : Cond) ∈ lw_g := List.mem_filter.mpr ⟨List.mem_of_getElem? (i := 465) (by decide +kernel), by decide +kernel⟩
theorem wq466 : (.code ⟨"AppletFirewallModel", "forget", "()V"⟩ prog_7_method_2_code 1 none : Cond) ∈ lw_g := List.mem_filter.mpr ⟨List.mem_of_getElem? (i := 466) (by decide +kernel), by decide +kernel⟩
theorem wq467 : (.methodLink "AppletFirewallModel" 71 ⟨"AppletFirewallModel", "undo", "()Z"⟩ : Cond) ∈ lw_g := List.mem_filter.mpr ⟨List.mem_of_getElem? (i := 467) (by decide +kernel), by decide +kernel⟩
theorem wq469 : (.instanceMethod ⟨"AppletFirewallModel", "undo", "()Z"⟩ : Cond) ∈ lw_g := List.mem_filter.mpr ⟨List.mem_of_getElem? (i := 469) (by decide +kernel), by decide +kernel⟩
theorem wq470 : (.code ⟨"AppletFirewallModel", "undo", "()Z"⟩ prog_7_method_7_code 2 (some FieldType.boolean) : Cond) ∈ lw_g := List.mem_filter.mpr ⟨List.mem_of_getElem? (i := 470) (by decide +kernel), by decide +kernel⟩
theorem wq471 : (.methodLink "AppletFirewallModel" 67 ⟨"AppletFirewallModel", "several", "(I)Z"⟩ : Cond) ∈ lw_g := List.mem_filter.mpr ⟨List.mem_of_getElem? (i := 471) (by decide +kernel), by decide +kernel⟩
theorem wq473 : (.instanceMethod ⟨"AppletFirewallModel", "several", "(I)Z"⟩ : Cond) ∈ lw_g := List.mem_filter.mpr ⟨List.mem_of_getElem? (i := 473) (by decide +kernel), by decide +kernel⟩
theorem wq474 : (.code ⟨"AppletFirewallModel", "several", "(I)Z"⟩ prog_7_method_4_code 3 (some FieldType.boolean) : Cond) ∈ lw_g := List.mem_filter.mpr ⟨List.mem_of_getElem? (i := 474) (by decide +kernel), by decide +kernel⟩
theorem wq475 : (.methodLink "AppletFirewallModel" 60 ⟨"AppletFirewallModel", "write", "()Z"⟩ : Cond) ∈ lw_g := List.mem_filter.mpr ⟨List.mem_of_getElem? (i := 475) (by decide +kernel), by decide +kernel⟩
theorem wq477 : (.instanceMethod ⟨"AppletFirewallModel", "write", "()Z"⟩ : Cond) ∈ lw_g := List.mem_filter.mpr ⟨List.mem_of_getElem? (i := 477) (by decide +kernel), by decide +kernel⟩
theorem wq478 : (.code ⟨"AppletFirewallModel", "write", "()Z"⟩ prog_7_method_3_code 1 (some FieldType.boolean) : Cond) ∈ lw_g := List.mem_filter.mpr ⟨List.mem_of_getElem? (i := 478) (by decide +kernel), by decide +kernel⟩
theorem wq483 : (.constantLong "AppletFirewallModel" 74 255 : Cond) ∈ lw_g := List.mem_filter.mpr ⟨List.mem_of_getElem? (i := 483) (by decide +kernel), by decide +kernel⟩
theorem wq488 : (.methodLink "AppletFirewallModel" 96 ⟨"AppletFirewallModel", "refuse", "()I"⟩ : Cond) ∈ lw_g := List.mem_filter.mpr ⟨List.mem_of_getElem? (i := 488) (by decide +kernel), by decide +kernel⟩
theorem wq490 : (.instanceMethod ⟨"AppletFirewallModel", "refuse", "()I"⟩ : Cond) ∈ lw_g := List.mem_filter.mpr ⟨List.mem_of_getElem? (i := 490) (by decide +kernel), by decide +kernel⟩
theorem wq491 : (.code ⟨"AppletFirewallModel", "refuse", "()I"⟩ prog_7_method_17_code 3 (some FieldType.int) : Cond) ∈ lw_g := List.mem_filter.mpr ⟨List.mem_of_getElem? (i := 491) (by decide +kernel), by decide +kernel⟩
theorem wq492 : (.methodLink "AppletFirewallModel" 79 ⟨"AppletFirewallModel", "shape", "()I"⟩ : Cond) ∈ lw_g := List.mem_filter.mpr ⟨List.mem_of_getElem? (i := 492) (by decide +kernel), by decide +kernel⟩
theorem wq494 : (.instanceMethod ⟨"AppletFirewallModel", "shape", "()I"⟩ : Cond) ∈ lw_g := List.mem_filter.mpr ⟨List.mem_of_getElem? (i := 494) (by decide +kernel), by decide +kernel⟩
theorem wq495 : (.code ⟨"AppletFirewallModel", "shape", "()I"⟩ prog_7_method_11_code 2 (some FieldType.int) : Cond) ∈ lw_g := List.mem_filter.mpr ⟨List.mem_of_getElem? (i := 495) (by decide +kernel), by decide +kernel⟩
theorem wq496 : (.methodLink "AppletFirewallModel" 83 ⟨"AppletFirewallModel", "known", "(I)Z"⟩ : Cond) ∈ lw_g := List.mem_filter.mpr ⟨List.mem_of_getElem? (i := 496) (by decide +kernel), by decide +kernel⟩
theorem wq497 : (.static ⟨"AppletFirewallModel", "known", "(I)Z"⟩ : Cond) ∈ lw_g := List.mem_filter.mpr ⟨List.mem_of_getElem? (i := 497) (by decide +kernel), by decide +kernel⟩
theorem wq498 : (.code ⟨"AppletFirewallModel", "known", "(I)Z"⟩ prog_7_method_13_code 1 (some FieldType.boolean) : Cond) ∈ lw_g := List.mem_filter.mpr ⟨List.mem_of_getElem? (i := 498) (by decide +kernel), by decide +kernel⟩
theorem wq499 : (.methodLink "AppletFirewallModel" 76 ⟨"AppletFirewallModel", "starred", "(I)Z"⟩ : Cond) ∈ lw_g := List.mem_filter.mpr ⟨List.mem_of_getElem? (i := 499) (by decide +kernel), by decide +kernel⟩
theorem wq500 : (.static ⟨"AppletFirewallModel", "starred", "(I)Z"⟩ : Cond) ∈ lw_g := List.mem_filter.mpr ⟨List.mem_of_getElem? (i := 500) (by decide +kernel), by decide +kernel⟩
theorem wq501 : (.code ⟨"AppletFirewallModel", "starred", "(I)Z"⟩ prog_7_method_12_code 1 (some FieldType.boolean) : Cond) ∈ lw_g := List.mem_filter.mpr ⟨List.mem_of_getElem? (i := 501) (by decide +kernel), by decide +kernel⟩
theorem wq502 : (.methodLink "AppletFirewallModel" 86 ⟨"AppletFirewallModel", "shapeOf", "(I)I"⟩ : Cond) ∈ lw_g := List.mem_filter.mpr ⟨List.mem_of_getElem? (i := 502) (by decide +kernel), by decide +kernel⟩
theorem wq503 : (.static ⟨"AppletFirewallModel", "shapeOf", "(I)I"⟩ : Cond) ∈ lw_g := List.mem_filter.mpr ⟨List.mem_of_getElem? (i := 503) (by decide +kernel), by decide +kernel⟩
theorem wq504 : (.code ⟨"AppletFirewallModel", "shapeOf", "(I)I"⟩ prog_7_method_14_code 1 (some FieldType.int) : Cond) ∈ lw_g := List.mem_filter.mpr ⟨List.mem_of_getElem? (i := 504) (by decide +kernel), by decide +kernel⟩
theorem wq505 : (.methodLink "AppletFirewallModel" 90 ⟨"AppletFirewallModel", "lengthWrong", "(I)Z"⟩ : Cond) ∈ lw_g := List.mem_filter.mpr ⟨List.mem_of_getElem? (i := 505) (by decide +kernel), by decide +kernel⟩
theorem wq507 : (.instanceMethod ⟨"AppletFirewallModel", "lengthWrong", "(I)Z"⟩ : Cond) ∈ lw_g := List.mem_filter.mpr ⟨List.mem_of_getElem? (i := 507) (by decide +kernel), by decide +kernel⟩
theorem wq508 : (.code ⟨"AppletFirewallModel", "lengthWrong", "(I)Z"⟩ prog_7_method_15_code 3 (some FieldType.boolean) : Cond) ∈ lw_g := List.mem_filter.mpr ⟨List.mem_of_getElem? (i := 508) (by decide +kernel), by decide +kernel⟩
theorem wq509 : (.methodLink "AppletFirewallModel" 93 ⟨"AppletFirewallModel", "placesWrong", "(I)Z"⟩ : Cond) ∈ lw_g := List.mem_filter.mpr ⟨List.mem_of_getElem? (i := 509) (by decide +kernel), by decide +kernel⟩
theorem wq511 : (.instanceMethod ⟨"AppletFirewallModel", "placesWrong", "(I)Z"⟩ : Cond) ∈ lw_g := List.mem_filter.mpr ⟨List.mem_of_getElem? (i := 511) (by decide +kernel), by decide +kernel⟩
theorem wq512 : (.code ⟨"AppletFirewallModel", "placesWrong", "(I)Z"⟩ prog_7_method_16_code 4 (some FieldType.boolean) : Cond) ∈ lw_g := List.mem_filter.mpr ⟨List.mem_of_getElem? (i := 512) (by decide +kernel), by decide +kernel⟩
theorem wq513 : (.methodLink "AppletFirewallModel" 99 ⟨"AppletFirewallModel", "carry", "(III)I"⟩ : Cond) ∈ lw_g := List.mem_filter.mpr ⟨List.mem_of_getElem? (i := 513) (by decide +kernel), by decide +kernel⟩
theorem wq515 : (.instanceMethod ⟨"AppletFirewallModel", "carry", "(III)I"⟩ : Cond) ∈ lw_g := List.mem_filter.mpr ⟨List.mem_of_getElem? (i := 515) (by decide +kernel), by decide +kernel⟩
theorem wq516 : (.code ⟨"AppletFirewallModel", "carry", "(III)I"⟩ prog_7_method_19_code 4 (some FieldType.int) : Cond) ∈ lw_g := List.mem_filter.mpr ⟨List.mem_of_getElem? (i := 516) (by decide +kernel), by decide +kernel⟩
theorem wq517 : (.methodLink "AppletFirewallModel" 104 ⟨"AppletFirewallModel", "select", "(I)I"⟩ : Cond) ∈ lw_g := List.mem_filter.mpr ⟨List.mem_of_getElem? (i := 517) (by decide +kernel), by decide +kernel⟩
theorem wq519 : (.instanceMethod ⟨"AppletFirewallModel", "select", "(I)I"⟩ : Cond) ∈ lw_g := List.mem_filter.mpr ⟨List.mem_of_getElem? (i := 519) (by decide +kernel), by decide +kernel⟩
theorem wq520 : (.code ⟨"AppletFirewallModel", "select", "(I)I"⟩ prog_7_method_21_code 2 (some FieldType.int) : Cond) ∈ lw_g := List.mem_filter.mpr ⟨List.mem_of_getElem? (i := 520) (by decide +kernel), by decide +kernel⟩
theorem wq521 : (.constant "AppletFirewallModel" 103 36864 : Cond) ∈ lw_g := List.mem_filter.mpr ⟨List.mem_of_getElem? (i := 521) (by decide +kernel), by decide +kernel⟩
theorem wq522 : (.methodLink "AppletFirewallModel" 107 ⟨"AppletFirewallModel", "verify", "()I"⟩ : Cond) ∈ lw_g := List.mem_filter.mpr ⟨List.mem_of_getElem? (i := 522) (by decide +kernel), by decide +kernel⟩
theorem wq524 : (.instanceMethod ⟨"AppletFirewallModel", "verify", "()I"⟩ : Cond) ∈ lw_g := List.mem_filter.mpr ⟨List.mem_of_getElem? (i := 524) (by decide +kernel), by decide +kernel⟩
theorem wq525 : (.code ⟨"AppletFirewallModel", "verify", "()I"⟩ prog_7_method_22_code 2 (some FieldType.int) : Cond) ∈ lw_g := List.mem_filter.mpr ⟨List.mem_of_getElem? (i := 525) (by decide +kernel), by decide +kernel⟩
theorem wq526 : (.methodLink "AppletFirewallModel" 110 ⟨"AppletFirewallModel", "store", "(II)I"⟩ : Cond) ∈ lw_g := List.mem_filter.mpr ⟨List.mem_of_getElem? (i := 526) (by decide +kernel), by decide +kernel⟩
theorem wq528 : (.instanceMethod ⟨"AppletFirewallModel", "store", "(II)I"⟩ : Cond) ∈ lw_g := List.mem_filter.mpr ⟨List.mem_of_getElem? (i := 528) (by decide +kernel), by decide +kernel⟩
theorem wq529 : (.code ⟨"AppletFirewallModel", "store", "(II)I"⟩ prog_7_method_20_code 4 (some FieldType.int) : Cond) ∈ lw_g := List.mem_filter.mpr ⟨List.mem_of_getElem? (i := 529) (by decide +kernel), by decide +kernel⟩
theorem wq530 : (.methodLink "AppletFirewallModel" 132 ⟨"AppletFirewallModel", "change", "(II)Z"⟩ : Cond) ∈ lw_g := List.mem_filter.mpr ⟨List.mem_of_getElem? (i := 530) (by decide +kernel), by decide +kernel⟩
theorem wq532 : (.instanceMethod ⟨"AppletFirewallModel", "change", "(II)Z"⟩ : Cond) ∈ lw_g := List.mem_filter.mpr ⟨List.mem_of_getElem? (i := 532) (by decide +kernel), by decide +kernel⟩
theorem wq533 : (.code ⟨"AppletFirewallModel", "change", "(II)Z"⟩ prog_7_method_5_code 4 (some FieldType.boolean) : Cond) ∈ lw_g := List.mem_filter.mpr ⟨List.mem_of_getElem? (i := 533) (by decide +kernel), by decide +kernel⟩
theorem wq534 : (.methodLink "AppletFirewallModel" 136 ⟨"AppletFirewallModel", "settle", "()Z"⟩ : Cond) ∈ lw_g := List.mem_filter.mpr ⟨List.mem_of_getElem? (i := 534) (by decide +kernel), by decide +kernel⟩
theorem wq536 : (.instanceMethod ⟨"AppletFirewallModel", "settle", "()Z"⟩ : Cond) ∈ lw_g := List.mem_filter.mpr ⟨List.mem_of_getElem? (i := 536) (by decide +kernel), by decide +kernel⟩
theorem wq537 : (.code ⟨"AppletFirewallModel", "settle", "()Z"⟩ prog_7_method_6_code 1 (some FieldType.boolean) : Cond) ∈ lw_g := List.mem_filter.mpr ⟨List.mem_of_getElem? (i := 537) (by decide +kernel), by decide +kernel⟩
theorem wq538 : (.methodLink "AppletFirewallModel" 114 ⟨"AppletFirewallModel", "unblock", "(I)I"⟩ : Cond) ∈ lw_g := List.mem_filter.mpr ⟨List.mem_of_getElem? (i := 538) (by decide +kernel), by decide +kernel⟩
theorem wq540 : (.instanceMethod ⟨"AppletFirewallModel", "unblock", "(I)I"⟩ : Cond) ∈ lw_g := List.mem_filter.mpr ⟨List.mem_of_getElem? (i := 540) (by decide +kernel), by decide +kernel⟩
theorem wq541 : (.code ⟨"AppletFirewallModel", "unblock", "(I)I"⟩ prog_7_method_23_code 2 (some FieldType.int) : Cond) ∈ lw_g := List.mem_filter.mpr ⟨List.mem_of_getElem? (i := 541) (by decide +kernel), by decide +kernel⟩
theorem wq542 : (.methodLink "AppletFirewallModel" 117 ⟨"AppletFirewallModel", "read", "(III)I"⟩ : Cond) ∈ lw_g := List.mem_filter.mpr ⟨List.mem_of_getElem? (i := 542) (by decide +kernel), by decide +kernel⟩
theorem wq544 : (.instanceMethod ⟨"AppletFirewallModel", "read", "(III)I"⟩ : Cond) ∈ lw_g := List.mem_filter.mpr ⟨List.mem_of_getElem? (i := 544) (by decide +kernel), by decide +kernel⟩
theorem wq545 : (.code ⟨"AppletFirewallModel", "read", "(III)I"⟩ prog_7_method_26_code 6 (some FieldType.int) : Cond) ∈ lw_g := List.mem_filter.mpr ⟨List.mem_of_getElem? (i := 545) (by decide +kernel), by decide +kernel⟩
theorem wq546 : (.methodLink "AppletFirewallModel" 120 ⟨"AppletFirewallModel", "begin", "()I"⟩ : Cond) ∈ lw_g := List.mem_filter.mpr ⟨List.mem_of_getElem? (i := 546) (by decide +kernel), by decide +kernel⟩
theorem wq548 : (.instanceMethod ⟨"AppletFirewallModel", "begin", "()I"⟩ : Cond) ∈ lw_g := List.mem_filter.mpr ⟨List.mem_of_getElem? (i := 548) (by decide +kernel), by decide +kernel⟩
theorem wq549 : (.code ⟨"AppletFirewallModel", "begin", "()I"⟩ prog_7_method_24_code 1 (some FieldType.int) : Cond) ∈ lw_g := List.mem_filter.mpr ⟨List.mem_of_getElem? (i := 549) (by decide +kernel), by decide +kernel⟩
theorem wq550 : (.methodLink "AppletFirewallModel" 123 ⟨"AppletFirewallModel", "end", "(I)I"⟩ : Cond) ∈ lw_g := List.mem_filter.mpr ⟨List.mem_of_getElem? (i := 550) (by decide +kernel), by decide +kernel⟩
theorem wq552 : (.instanceMethod ⟨"AppletFirewallModel", "end", "(I)I"⟩ : Cond) ∈ lw_g := List.mem_filter.mpr ⟨List.mem_of_getElem? (i := 552) (by decide +kernel), by decide +kernel⟩
theorem wq553 : (.code ⟨"AppletFirewallModel", "end", "(I)I"⟩ prog_7_method_25_code 3 (some FieldType.int) : Cond) ∈ lw_g := List.mem_filter.mpr ⟨List.mem_of_getElem? (i := 553) (by decide +kernel), by decide +kernel⟩
theorem wq554 : (.methodLink "AppletFirewallModel" 126 ⟨"AppletFirewallModel", "grant", "(I)I"⟩ : Cond) ∈ lw_g := List.mem_filter.mpr ⟨List.mem_of_getElem? (i := 554) (by decide +kernel), by decide +kernel⟩
theorem wq556 : (.instanceMethod ⟨"AppletFirewallModel", "grant", "(I)I"⟩ : Cond) ∈ lw_g := List.mem_filter.mpr ⟨List.mem_of_getElem? (i := 556) (by decide +kernel), by decide +kernel⟩
theorem wq557 : (.code ⟨"AppletFirewallModel", "grant", "(I)I"⟩ prog_7_method_27_code 6 (some FieldType.int) : Cond) ∈ lw_g := List.mem_filter.mpr ⟨List.mem_of_getElem? (i := 557) (by decide +kernel), by decide +kernel⟩
theorem wq558 : (.methodLink "AppletFirewallModel" 129 ⟨"AppletFirewallModel", "shared", "(III)I"⟩ : Cond) ∈ lw_g := List.mem_filter.mpr ⟨List.mem_of_getElem? (i := 558) (by decide +kernel), by decide +kernel⟩
theorem wq560 : (.instanceMethod ⟨"AppletFirewallModel", "shared", "(III)I"⟩ : Cond) ∈ lw_g := List.mem_filter.mpr ⟨List.mem_of_getElem? (i := 560) (by decide +kernel), by decide +kernel⟩
theorem wq561 : (.code ⟨"AppletFirewallModel", "shared", "(III)I"⟩ prog_7_method_28_code 8 (some FieldType.int) : Cond) ∈ lw_g := List.mem_filter.mpr ⟨List.mem_of_getElem? (i := 561) (by decide +kernel), by decide +kernel⟩
theorem wq594 : (.constant "AppletFirewallModel" 139 65536 : Cond) ∈ lw_g := List.mem_filter.mpr ⟨List.mem_of_getElem? (i := 594) (by decide +kernel), by decide +kernel⟩
theorem wq595 : (.constant "AppletFirewallModel" 140 16777216 : Cond) ∈ lw_g := List.mem_filter.mpr ⟨List.mem_of_getElem? (i := 595) (by decide +kernel), by decide +kernel⟩
theorem wq605 : (.fieldLink "AppletFirewall$Instruction" 62 "AppletFirewall$Instruction" "code" "I" : Cond) ∈ lw_g := List.mem_filter.mpr ⟨List.mem_of_getElem? (i := 605) (by decide +kernel), by decide +kernel⟩
theorem wq606 : (.fieldLink "AppletFirewall$Instruction" 66 "AppletFirewall$Instruction" "shape" "I" : Cond) ∈ lw_g := List.mem_filter.mpr ⟨List.mem_of_getElem? (i := 606) (by decide +kernel), by decide +kernel⟩
theorem wq607 : (.fieldLink "AppletFirewall$Instruction" 69 "AppletFirewall$Instruction" "lc" "I" : Cond) ∈ lw_g := List.mem_filter.mpr ⟨List.mem_of_getElem? (i := 607) (by decide +kernel), by decide +kernel⟩
theorem wq608 : (.fieldLink "AppletFirewall$Instruction" 72 "AppletFirewall$Instruction" "highestP1" "I" : Cond) ∈ lw_g := List.mem_filter.mpr ⟨List.mem_of_getElem? (i := 608) (by decide +kernel), by decide +kernel⟩
theorem wq609 : (.fieldLink "AppletFirewall$Instruction" 75 "AppletFirewall$Instruction" "highestP2" "I" : Cond) ∈ lw_g := List.mem_filter.mpr ⟨List.mem_of_getElem? (i := 609) (by decide +kernel), by decide +kernel⟩
theorem wq610 : (.fieldLink "AppletFirewall$Instruction" 78 "AppletFirewall$Instruction" "guarded" "Z" : Cond) ∈ lw_g := List.mem_filter.mpr ⟨List.mem_of_getElem? (i := 610) (by decide +kernel), by decide +kernel⟩
theorem wq611 : (.fieldLink "java/lang/Enum" 7 "java/lang/Enum" "ordinal" "I" : Cond) ∈ lw_g := List.mem_filter.mpr ⟨List.mem_of_getElem? (i := 611) (by decide +kernel), by decide +kernel⟩
