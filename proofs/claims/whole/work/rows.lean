section
-- ===== PART A: goes FIRST, ahead of the names: the tables' words, and 'selects' of the private methods out of them =====
/-- a private method of a class that the tables say can be made, by its rows of tables_1 -/
def lw_okq (q : MethodName × Nat) : Prop := (q.1.cls ≠ "java/lang/invoke/MethodHandle" ∧ q.1.cls ≠ "java/lang/invoke/VarHandle") ∧ Cond.instantiable q.1.cls q.2 ∈ tables_1 ∧ Cond.privateMethod q.1 ∈ tables_1 ∧ Cond.instanceMethod q.1 ∈ tables_1
theorem lw_p0 : lw_okq (⟨"ChunkedNodes", "addNode", "(II)I"⟩, 10) := ⟨⟨by decide +kernel, by decide +kernel⟩, List.mem_of_getElem? (i := 14) (by decide +kernel), List.mem_of_getElem? (i := 264) (by decide +kernel), List.mem_of_getElem? (i := 265) (by decide +kernel)⟩
theorem lw_p1 : lw_okq (⟨"ChunkedNodes", "isNode", "(I)Z"⟩, 10) := ⟨⟨by decide +kernel, by decide +kernel⟩, List.mem_of_getElem? (i := 14) (by decide +kernel), List.mem_of_getElem? (i := 268) (by decide +kernel), List.mem_of_getElem? (i := 269) (by decide +kernel)⟩
theorem lw_p2 : lw_okq (⟨"ChunkedNodes", "isVariable", "(I)Z"⟩, 10) := ⟨⟨by decide +kernel, by decide +kernel⟩, List.mem_of_getElem? (i := 14) (by decide +kernel), List.mem_of_getElem? (i := 272) (by decide +kernel), List.mem_of_getElem? (i := 273) (by decide +kernel)⟩
theorem lw_p3 : lw_okq (⟨"ChunkedNodes", "changeValue", "(I)Z"⟩, 10) := ⟨⟨by decide +kernel, by decide +kernel⟩, List.mem_of_getElem? (i := 14) (by decide +kernel), List.mem_of_getElem? (i := 289) (by decide +kernel), List.mem_of_getElem? (i := 290) (by decide +kernel)⟩
theorem lw_p4 : lw_okq (⟨"ChunkedNodes$Item", "discard", "()V"⟩, 5) := ⟨⟨by decide +kernel, by decide +kernel⟩, List.mem_of_getElem? (i := 152) (by decide +kernel), List.mem_of_getElem? (i := 311) (by decide +kernel), List.mem_of_getElem? (i := 312) (by decide +kernel)⟩
theorem lw_p5 : lw_okq (⟨"ChunkedNodes$Channel", "isNext", "(I)Z"⟩, 7) := ⟨⟨by decide +kernel, by decide +kernel⟩, List.mem_of_getElem? (i := 79) (by decide +kernel), List.mem_of_getElem? (i := 329) (by decide +kernel), List.mem_of_getElem? (i := 330) (by decide +kernel)⟩
theorem lw_p6 : lw_okq (⟨"ChunkedNodes", "serve", "(LChunkedNodes$Message;)I"⟩, 10) := ⟨⟨by decide +kernel, by decide +kernel⟩, List.mem_of_getElem? (i := 14) (by decide +kernel), List.mem_of_getElem? (i := 343) (by decide +kernel), List.mem_of_getElem? (i := 344) (by decide +kernel)⟩
theorem lw_p7 : lw_okq (⟨"ChunkedNodes", "serveRead", "(LChunkedNodes$Message;)I"⟩, 10) := ⟨⟨by decide +kernel, by decide +kernel⟩, List.mem_of_getElem? (i := 14) (by decide +kernel), List.mem_of_getElem? (i := 359) (by decide +kernel), List.mem_of_getElem? (i := 360) (by decide +kernel)⟩
theorem lw_p8 : lw_okq (⟨"ChunkedNodes", "checkVariable", "(I)I"⟩, 10) := ⟨⟨by decide +kernel, by decide +kernel⟩, List.mem_of_getElem? (i := 14) (by decide +kernel), List.mem_of_getElem? (i := 373) (by decide +kernel), List.mem_of_getElem? (i := 374) (by decide +kernel)⟩
theorem lw_p9 : lw_okq (⟨"ChunkedNodes", "serveWrite", "(LChunkedNodes$Message;)I"⟩, 10) := ⟨⟨by decide +kernel, by decide +kernel⟩, List.mem_of_getElem? (i := 14) (by decide +kernel), List.mem_of_getElem? (i := 377) (by decide +kernel), List.mem_of_getElem? (i := 378) (by decide +kernel)⟩
theorem lw_p10 : lw_okq (⟨"ChunkedNodes$Message", "readValue", "(LChunkedNodes$Bytes;I)V"⟩, 3) := ⟨⟨by decide +kernel, by decide +kernel⟩, List.mem_of_getElem? (i := 85) (by decide +kernel), List.mem_of_getElem? (i := 381) (by decide +kernel), List.mem_of_getElem? (i := 382) (by decide +kernel)⟩
theorem lw_p11 : lw_okq (⟨"ChunkedNodes$Message", "moveBytes", "(LChunkedNodes$Bytes;I)V"⟩, 3) := ⟨⟨by decide +kernel, by decide +kernel⟩, List.mem_of_getElem? (i := 85) (by decide +kernel), List.mem_of_getElem? (i := 386) (by decide +kernel), List.mem_of_getElem? (i := 387) (by decide +kernel)⟩
theorem lw_p12 : lw_okq (⟨"ChunkedNodes$Message", "readText", "(LChunkedNodes$Bytes;)V"⟩, 3) := ⟨⟨by decide +kernel, by decide +kernel⟩, List.mem_of_getElem? (i := 85) (by decide +kernel), List.mem_of_getElem? (i := 390) (by decide +kernel), List.mem_of_getElem? (i := 391) (by decide +kernel)⟩
theorem lw_p13 : lw_okq (⟨"ChunkedNodes$Message", "readList", "(LChunkedNodes$Bytes;I)V"⟩, 3) := ⟨⟨by decide +kernel, by decide +kernel⟩, List.mem_of_getElem? (i := 85) (by decide +kernel), List.mem_of_getElem? (i := 399) (by decide +kernel), List.mem_of_getElem? (i := 400) (by decide +kernel)⟩
theorem lw_p14 : lw_okq (⟨"ChunkedNodes", "serveBrowse", "(LChunkedNodes$Message;)I"⟩, 10) := ⟨⟨by decide +kernel, by decide +kernel⟩, List.mem_of_getElem? (i := 14) (by decide +kernel), List.mem_of_getElem? (i := 408) (by decide +kernel), List.mem_of_getElem? (i := 409) (by decide +kernel)⟩
theorem lw_p15 : lw_okq (⟨"ChunkedNodes", "replyParent", "(I)V"⟩, 10) := ⟨⟨by decide +kernel, by decide +kernel⟩, List.mem_of_getElem? (i := 14) (by decide +kernel), List.mem_of_getElem? (i := 412) (by decide +kernel), List.mem_of_getElem? (i := 413) (by decide +kernel)⟩
def lw_privs_1 : List (MethodName × Nat) := [(⟨"ChunkedNodes", "addNode", "(II)I"⟩, 10), (⟨"ChunkedNodes", "isNode", "(I)Z"⟩, 10), (⟨"ChunkedNodes", "isVariable", "(I)Z"⟩, 10), (⟨"ChunkedNodes", "changeValue", "(I)Z"⟩, 10), (⟨"ChunkedNodes$Item", "discard", "()V"⟩, 5), (⟨"ChunkedNodes$Channel", "isNext", "(I)Z"⟩, 7), (⟨"ChunkedNodes", "serve", "(LChunkedNodes$Message;)I"⟩, 10), (⟨"ChunkedNodes", "serveRead", "(LChunkedNodes$Message;)I"⟩, 10), (⟨"ChunkedNodes", "checkVariable", "(I)I"⟩, 10), (⟨"ChunkedNodes", "serveWrite", "(LChunkedNodes$Message;)I"⟩, 10), (⟨"ChunkedNodes$Message", "readValue", "(LChunkedNodes$Bytes;I)V"⟩, 3), (⟨"ChunkedNodes$Message", "moveBytes", "(LChunkedNodes$Bytes;I)V"⟩, 3), (⟨"ChunkedNodes$Message", "readText", "(LChunkedNodes$Bytes;)V"⟩, 3), (⟨"ChunkedNodes$Message", "readList", "(LChunkedNodes$Bytes;I)V"⟩, 3), (⟨"ChunkedNodes", "serveBrowse", "(LChunkedNodes$Message;)I"⟩, 10), (⟨"ChunkedNodes", "replyParent", "(I)V"⟩, 10)]
theorem lw_r1 : ∀ q ∈ lw_privs_1, lw_okq q := List.forall_mem_cons.mpr ⟨lw_p0, List.forall_mem_cons.mpr ⟨lw_p1, List.forall_mem_cons.mpr ⟨lw_p2, List.forall_mem_cons.mpr ⟨lw_p3, List.forall_mem_cons.mpr ⟨lw_p4, List.forall_mem_cons.mpr ⟨lw_p5, List.forall_mem_cons.mpr ⟨lw_p6, List.forall_mem_cons.mpr ⟨lw_p7, List.forall_mem_cons.mpr ⟨lw_p8, List.forall_mem_cons.mpr ⟨lw_p9, List.forall_mem_cons.mpr ⟨lw_p10, List.forall_mem_cons.mpr ⟨lw_p11, List.forall_mem_cons.mpr ⟨lw_p12, List.forall_mem_cons.mpr ⟨lw_p13, List.forall_mem_cons.mpr ⟨lw_p14, List.forall_mem_cons.mpr ⟨lw_p15, fun _ h => absurd h List.not_mem_nil⟩⟩⟩⟩⟩⟩⟩⟩⟩⟩⟩⟩⟩⟩⟩⟩
theorem lw_p16 : lw_okq (⟨"ChunkedNodes", "replyName", "(I)V"⟩, 10) := ⟨⟨by decide +kernel, by decide +kernel⟩, List.mem_of_getElem? (i := 14) (by decide +kernel), List.mem_of_getElem? (i := 416) (by decide +kernel), List.mem_of_getElem? (i := 417) (by decide +kernel)⟩
theorem lw_p17 : lw_okq (⟨"ChunkedNodes", "replyChildren", "(I)V"⟩, 10) := ⟨⟨by decide +kernel, by decide +kernel⟩, List.mem_of_getElem? (i := 14) (by decide +kernel), List.mem_of_getElem? (i := 424) (by decide +kernel), List.mem_of_getElem? (i := 425) (by decide +kernel)⟩
theorem lw_p18 : lw_okq (⟨"ChunkedNodes", "serveWatch", "(LChunkedNodes$Message;)I"⟩, 10) := ⟨⟨by decide +kernel, by decide +kernel⟩, List.mem_of_getElem? (i := 14) (by decide +kernel), List.mem_of_getElem? (i := 428) (by decide +kernel), List.mem_of_getElem? (i := 429) (by decide +kernel)⟩
theorem lw_p19 : lw_okq (⟨"ChunkedNodes", "servePublish", "(LChunkedNodes$Message;)I"⟩, 10) := ⟨⟨by decide +kernel, by decide +kernel⟩, List.mem_of_getElem? (i := 14) (by decide +kernel), List.mem_of_getElem? (i := 440) (by decide +kernel), List.mem_of_getElem? (i := 441) (by decide +kernel)⟩
theorem lw_p20 : lw_okq (⟨"ChunkedNodes$Shelf", "removeAt", "(I)V"⟩, 3) := ⟨⟨by decide +kernel, by decide +kernel⟩, List.mem_of_getElem? (i := 26) (by decide +kernel), List.mem_of_getElem? (i := 453) (by decide +kernel), List.mem_of_getElem? (i := 454) (by decide +kernel)⟩
theorem lw_p21 : lw_okq (⟨"ChunkedNodes", "countNotices", "()I"⟩, 10) := ⟨⟨by decide +kernel, by decide +kernel⟩, List.mem_of_getElem? (i := 14) (by decide +kernel), List.mem_of_getElem? (i := 457) (by decide +kernel), List.mem_of_getElem? (i := 458) (by decide +kernel)⟩
theorem lw_p22 : lw_okq (⟨"ChunkedNodes", "moveNotices", "(LChunkedNodes$Bytes;I)V"⟩, 10) := ⟨⟨by decide +kernel, by decide +kernel⟩, List.mem_of_getElem? (i := 14) (by decide +kernel), List.mem_of_getElem? (i := 467) (by decide +kernel), List.mem_of_getElem? (i := 468) (by decide +kernel)⟩
theorem lw_p23 : lw_okq (⟨"ChunkedNodes", "serveAgain", "(LChunkedNodes$Message;)I"⟩, 10) := ⟨⟨by decide +kernel, by decide +kernel⟩, List.mem_of_getElem? (i := 14) (by decide +kernel), List.mem_of_getElem? (i := 472) (by decide +kernel), List.mem_of_getElem? (i := 473) (by decide +kernel)⟩
theorem lw_p24 : lw_okq (⟨"ChunkedNodesModel", "make", "(IZI)I"⟩, 37) := ⟨⟨by decide +kernel, by decide +kernel⟩, List.mem_of_getElem? (i := 509) (by decide +kernel), List.mem_of_getElem? (i := 640) (by decide +kernel), List.mem_of_getElem? (i := 641) (by decide +kernel)⟩
theorem lw_p25 : lw_okq (⟨"ChunkedNodesModel", "isNode", "(I)Z"⟩, 37) := ⟨⟨by decide +kernel, by decide +kernel⟩, List.mem_of_getElem? (i := 509) (by decide +kernel), List.mem_of_getElem? (i := 644) (by decide +kernel), List.mem_of_getElem? (i := 645) (by decide +kernel)⟩
theorem lw_p26 : lw_okq (⟨"ChunkedNodesModel", "startNumber", "(IJI)V"⟩, 37) := ⟨⟨by decide +kernel, by decide +kernel⟩, List.mem_of_getElem? (i := 509) (by decide +kernel), List.mem_of_getElem? (i := 653) (by decide +kernel), List.mem_of_getElem? (i := 654) (by decide +kernel)⟩
theorem lw_p27 : lw_okq (⟨"ChunkedNodesModel", "isVariable", "(I)Z"⟩, 37) := ⟨⟨by decide +kernel, by decide +kernel⟩, List.mem_of_getElem? (i := 509) (by decide +kernel), List.mem_of_getElem? (i := 662) (by decide +kernel), List.mem_of_getElem? (i := 663) (by decide +kernel)⟩
theorem lw_p28 : lw_okq (⟨"ChunkedNodesModel", "become", "(I)Z"⟩, 37) := ⟨⟨by decide +kernel, by decide +kernel⟩, List.mem_of_getElem? (i := 509) (by decide +kernel), List.mem_of_getElem? (i := 666) (by decide +kernel), List.mem_of_getElem? (i := 667) (by decide +kernel)⟩
theorem lw_p29 : lw_okq (⟨"ChunkedNodesModel", "tell", "(II)V"⟩, 37) := ⟨⟨by decide +kernel, by decide +kernel⟩, List.mem_of_getElem? (i := 509) (by decide +kernel), List.mem_of_getElem? (i := 670) (by decide +kernel), List.mem_of_getElem? (i := 671) (by decide +kernel)⟩
theorem lw_p30 : lw_okq (⟨"ChunkedNodesModel", "dropFirst", "(I)V"⟩, 37) := ⟨⟨by decide +kernel, by decide +kernel⟩, List.mem_of_getElem? (i := 509) (by decide +kernel), List.mem_of_getElem? (i := 674) (by decide +kernel), List.mem_of_getElem? (i := 675) (by decide +kernel)⟩
theorem lw_p31 : lw_okq (⟨"ChunkedNodesModel", "copyNotice", "(II)V"⟩, 37) := ⟨⟨by decide +kernel, by decide +kernel⟩, List.mem_of_getElem? (i := 509) (by decide +kernel), List.mem_of_getElem? (i := 678) (by decide +kernel), List.mem_of_getElem? (i := 679) (by decide +kernel)⟩
def lw_privs_2 : List (MethodName × Nat) := [(⟨"ChunkedNodes", "replyName", "(I)V"⟩, 10), (⟨"ChunkedNodes", "replyChildren", "(I)V"⟩, 10), (⟨"ChunkedNodes", "serveWatch", "(LChunkedNodes$Message;)I"⟩, 10), (⟨"ChunkedNodes", "servePublish", "(LChunkedNodes$Message;)I"⟩, 10), (⟨"ChunkedNodes$Shelf", "removeAt", "(I)V"⟩, 3), (⟨"ChunkedNodes", "countNotices", "()I"⟩, 10), (⟨"ChunkedNodes", "moveNotices", "(LChunkedNodes$Bytes;I)V"⟩, 10), (⟨"ChunkedNodes", "serveAgain", "(LChunkedNodes$Message;)I"⟩, 10), (⟨"ChunkedNodesModel", "make", "(IZI)I"⟩, 37), (⟨"ChunkedNodesModel", "isNode", "(I)Z"⟩, 37), (⟨"ChunkedNodesModel", "startNumber", "(IJI)V"⟩, 37), (⟨"ChunkedNodesModel", "isVariable", "(I)Z"⟩, 37), (⟨"ChunkedNodesModel", "become", "(I)Z"⟩, 37), (⟨"ChunkedNodesModel", "tell", "(II)V"⟩, 37), (⟨"ChunkedNodesModel", "dropFirst", "(I)V"⟩, 37), (⟨"ChunkedNodesModel", "copyNotice", "(II)V"⟩, 37)]
theorem lw_r2 : ∀ q ∈ lw_privs_2, lw_okq q := List.forall_mem_cons.mpr ⟨lw_p16, List.forall_mem_cons.mpr ⟨lw_p17, List.forall_mem_cons.mpr ⟨lw_p18, List.forall_mem_cons.mpr ⟨lw_p19, List.forall_mem_cons.mpr ⟨lw_p20, List.forall_mem_cons.mpr ⟨lw_p21, List.forall_mem_cons.mpr ⟨lw_p22, List.forall_mem_cons.mpr ⟨lw_p23, List.forall_mem_cons.mpr ⟨lw_p24, List.forall_mem_cons.mpr ⟨lw_p25, List.forall_mem_cons.mpr ⟨lw_p26, List.forall_mem_cons.mpr ⟨lw_p27, List.forall_mem_cons.mpr ⟨lw_p28, List.forall_mem_cons.mpr ⟨lw_p29, List.forall_mem_cons.mpr ⟨lw_p30, List.forall_mem_cons.mpr ⟨lw_p31, fun _ h => absurd h List.not_mem_nil⟩⟩⟩⟩⟩⟩⟩⟩⟩⟩⟩⟩⟩⟩⟩⟩
theorem lw_p32 : lw_okq (⟨"ChunkedNodesModel", "append", "(III)V"⟩, 37) := ⟨⟨by decide +kernel, by decide +kernel⟩, List.mem_of_getElem? (i := 509) (by decide +kernel), List.mem_of_getElem? (i := 682) (by decide +kernel), List.mem_of_getElem? (i := 683) (by decide +kernel)⟩
theorem lw_p33 : lw_okq (⟨"ChunkedNodesModel", "follows", "(I)Z"⟩, 37) := ⟨⟨by decide +kernel, by decide +kernel⟩, List.mem_of_getElem? (i := 509) (by decide +kernel), List.mem_of_getElem? (i := 690) (by decide +kernel), List.mem_of_getElem? (i := 691) (by decide +kernel)⟩
theorem lw_p34 : lw_okq (⟨"ChunkedNodesModel", "reply", "()V"⟩, 37) := ⟨⟨by decide +kernel, by decide +kernel⟩, List.mem_of_getElem? (i := 509) (by decide +kernel), List.mem_of_getElem? (i := 694) (by decide +kernel), List.mem_of_getElem? (i := 695) (by decide +kernel)⟩
theorem lw_p35 : lw_okq (⟨"ChunkedNodesModel", "code", "(I)V"⟩, 37) := ⟨⟨by decide +kernel, by decide +kernel⟩, List.mem_of_getElem? (i := 509) (by decide +kernel), List.mem_of_getElem? (i := 698) (by decide +kernel), List.mem_of_getElem? (i := 699) (by decide +kernel)⟩
theorem lw_p36 : lw_okq (⟨"ChunkedNodesModel", "say", "(I)V"⟩, 37) := ⟨⟨by decide +kernel, by decide +kernel⟩, List.mem_of_getElem? (i := 509) (by decide +kernel), List.mem_of_getElem? (i := 702) (by decide +kernel), List.mem_of_getElem? (i := 703) (by decide +kernel)⟩
theorem lw_p37 : lw_okq (⟨"ChunkedNodesModel", "next", "()I"⟩, 37) := ⟨⟨by decide +kernel, by decide +kernel⟩, List.mem_of_getElem? (i := 509) (by decide +kernel), List.mem_of_getElem? (i := 706) (by decide +kernel), List.mem_of_getElem? (i := 707) (by decide +kernel)⟩
theorem lw_p38 : lw_okq (⟨"ChunkedNodesModel", "read", "()V"⟩, 37) := ⟨⟨by decide +kernel, by decide +kernel⟩, List.mem_of_getElem? (i := 509) (by decide +kernel), List.mem_of_getElem? (i := 710) (by decide +kernel), List.mem_of_getElem? (i := 711) (by decide +kernel)⟩
theorem lw_p39 : lw_okq (⟨"ChunkedNodesModel", "readName", "()V"⟩, 37) := ⟨⟨by decide +kernel, by decide +kernel⟩, List.mem_of_getElem? (i := 509) (by decide +kernel), List.mem_of_getElem? (i := 714) (by decide +kernel), List.mem_of_getElem? (i := 715) (by decide +kernel)⟩
theorem lw_p40 : lw_okq (⟨"ChunkedNodesModel", "number", "(I)I"⟩, 37) := ⟨⟨by decide +kernel, by decide +kernel⟩, List.mem_of_getElem? (i := 509) (by decide +kernel), List.mem_of_getElem? (i := 718) (by decide +kernel), List.mem_of_getElem? (i := 719) (by decide +kernel)⟩
theorem lw_p41 : lw_okq (⟨"ChunkedNodesModel", "whole", "()Z"⟩, 37) := ⟨⟨by decide +kernel, by decide +kernel⟩, List.mem_of_getElem? (i := 509) (by decide +kernel), List.mem_of_getElem? (i := 722) (by decide +kernel), List.mem_of_getElem? (i := 723) (by decide +kernel)⟩
theorem lw_p42 : lw_okq (⟨"ChunkedNodesModel", "write", "()V"⟩, 37) := ⟨⟨by decide +kernel, by decide +kernel⟩, List.mem_of_getElem? (i := 509) (by decide +kernel), List.mem_of_getElem? (i := 726) (by decide +kernel), List.mem_of_getElem? (i := 727) (by decide +kernel)⟩
theorem lw_p43 : lw_okq (⟨"ChunkedNodesModel", "readValue", "()V"⟩, 37) := ⟨⟨by decide +kernel, by decide +kernel⟩, List.mem_of_getElem? (i := 509) (by decide +kernel), List.mem_of_getElem? (i := 730) (by decide +kernel), List.mem_of_getElem? (i := 731) (by decide +kernel)⟩
theorem lw_p44 : lw_okq (⟨"ChunkedNodesModel", "put", "(I)V"⟩, 37) := ⟨⟨by decide +kernel, by decide +kernel⟩, List.mem_of_getElem? (i := 509) (by decide +kernel), List.mem_of_getElem? (i := 734) (by decide +kernel), List.mem_of_getElem? (i := 735) (by decide +kernel)⟩
theorem lw_p45 : lw_okq (⟨"ChunkedNodesModel", "putNumber", "(I)I"⟩, 37) := ⟨⟨by decide +kernel, by decide +kernel⟩, List.mem_of_getElem? (i := 509) (by decide +kernel), List.mem_of_getElem? (i := 738) (by decide +kernel), List.mem_of_getElem? (i := 739) (by decide +kernel)⟩
theorem lw_p46 : lw_okq (⟨"ChunkedNodesModel", "readPlain", "(I)V"⟩, 37) := ⟨⟨by decide +kernel, by decide +kernel⟩, List.mem_of_getElem? (i := 509) (by decide +kernel), List.mem_of_getElem? (i := 742) (by decide +kernel), List.mem_of_getElem? (i := 743) (by decide +kernel)⟩
theorem lw_p47 : lw_okq (⟨"ChunkedNodesModel", "browse", "()V"⟩, 37) := ⟨⟨by decide +kernel, by decide +kernel⟩, List.mem_of_getElem? (i := 509) (by decide +kernel), List.mem_of_getElem? (i := 746) (by decide +kernel), List.mem_of_getElem? (i := 747) (by decide +kernel)⟩
def lw_privs_3 : List (MethodName × Nat) := [(⟨"ChunkedNodesModel", "append", "(III)V"⟩, 37), (⟨"ChunkedNodesModel", "follows", "(I)Z"⟩, 37), (⟨"ChunkedNodesModel", "reply", "()V"⟩, 37), (⟨"ChunkedNodesModel", "code", "(I)V"⟩, 37), (⟨"ChunkedNodesModel", "say", "(I)V"⟩, 37), (⟨"ChunkedNodesModel", "next", "()I"⟩, 37), (⟨"ChunkedNodesModel", "read", "()V"⟩, 37), (⟨"ChunkedNodesModel", "readName", "()V"⟩, 37), (⟨"ChunkedNodesModel", "number", "(I)I"⟩, 37), (⟨"ChunkedNodesModel", "whole", "()Z"⟩, 37), (⟨"ChunkedNodesModel", "write", "()V"⟩, 37), (⟨"ChunkedNodesModel", "readValue", "()V"⟩, 37), (⟨"ChunkedNodesModel", "put", "(I)V"⟩, 37), (⟨"ChunkedNodesModel", "putNumber", "(I)I"⟩, 37), (⟨"ChunkedNodesModel", "readPlain", "(I)V"⟩, 37), (⟨"ChunkedNodesModel", "browse", "()V"⟩, 37)]
theorem lw_r3 : ∀ q ∈ lw_privs_3, lw_okq q := List.forall_mem_cons.mpr ⟨lw_p32, List.forall_mem_cons.mpr ⟨lw_p33, List.forall_mem_cons.mpr ⟨lw_p34, List.forall_mem_cons.mpr ⟨lw_p35, List.forall_mem_cons.mpr ⟨lw_p36, List.forall_mem_cons.mpr ⟨lw_p37, List.forall_mem_cons.mpr ⟨lw_p38, List.forall_mem_cons.mpr ⟨lw_p39, List.forall_mem_cons.mpr ⟨lw_p40, List.forall_mem_cons.mpr ⟨lw_p41, List.forall_mem_cons.mpr ⟨lw_p42, List.forall_mem_cons.mpr ⟨lw_p43, List.forall_mem_cons.mpr ⟨lw_p44, List.forall_mem_cons.mpr ⟨lw_p45, List.forall_mem_cons.mpr ⟨lw_p46, List.forall_mem_cons.mpr ⟨lw_p47, fun _ h => absurd h List.not_mem_nil⟩⟩⟩⟩⟩⟩⟩⟩⟩⟩⟩⟩⟩⟩⟩⟩
theorem lw_p48 : lw_okq (⟨"ChunkedNodesModel", "watch", "()V"⟩, 37) := ⟨⟨by decide +kernel, by decide +kernel⟩, List.mem_of_getElem? (i := 509) (by decide +kernel), List.mem_of_getElem? (i := 750) (by decide +kernel), List.mem_of_getElem? (i := 751) (by decide +kernel)⟩
theorem lw_p49 : lw_okq (⟨"ChunkedNodesModel", "publish", "()V"⟩, 37) := ⟨⟨by decide +kernel, by decide +kernel⟩, List.mem_of_getElem? (i := 509) (by decide +kernel), List.mem_of_getElem? (i := 754) (by decide +kernel), List.mem_of_getElem? (i := 755) (by decide +kernel)⟩
theorem lw_p50 : lw_okq (⟨"ChunkedNodesModel", "find", "(I)I"⟩, 37) := ⟨⟨by decide +kernel, by decide +kernel⟩, List.mem_of_getElem? (i := 509) (by decide +kernel), List.mem_of_getElem? (i := 758) (by decide +kernel), List.mem_of_getElem? (i := 759) (by decide +kernel)⟩
theorem lw_p51 : lw_okq (⟨"ChunkedNodesModel", "dropParcel", "(I)V"⟩, 37) := ⟨⟨by decide +kernel, by decide +kernel⟩, List.mem_of_getElem? (i := 509) (by decide +kernel), List.mem_of_getElem? (i := 762) (by decide +kernel), List.mem_of_getElem? (i := 763) (by decide +kernel)⟩
theorem lw_p52 : lw_okq (⟨"ChunkedNodesModel", "busy", "()I"⟩, 37) := ⟨⟨by decide +kernel, by decide +kernel⟩, List.mem_of_getElem? (i := 509) (by decide +kernel), List.mem_of_getElem? (i := 766) (by decide +kernel), List.mem_of_getElem? (i := 767) (by decide +kernel)⟩
theorem lw_p53 : lw_okq (⟨"ChunkedNodesModel", "sayNumber", "(I)V"⟩, 37) := ⟨⟨by decide +kernel, by decide +kernel⟩, List.mem_of_getElem? (i := 509) (by decide +kernel), List.mem_of_getElem? (i := 770) (by decide +kernel), List.mem_of_getElem? (i := 771) (by decide +kernel)⟩
theorem lw_p54 : lw_okq (⟨"ChunkedNodesModel", "sayNotice", "(I)V"⟩, 37) := ⟨⟨by decide +kernel, by decide +kernel⟩, List.mem_of_getElem? (i := 509) (by decide +kernel), List.mem_of_getElem? (i := 774) (by decide +kernel), List.mem_of_getElem? (i := 775) (by decide +kernel)⟩
theorem lw_p55 : lw_okq (⟨"ChunkedNodesModel", "keep", "()V"⟩, 37) := ⟨⟨by decide +kernel, by decide +kernel⟩, List.mem_of_getElem? (i := 509) (by decide +kernel), List.mem_of_getElem? (i := 778) (by decide +kernel), List.mem_of_getElem? (i := 779) (by decide +kernel)⟩
theorem lw_p56 : lw_okq (⟨"ChunkedNodesModel", "again", "()V"⟩, 37) := ⟨⟨by decide +kernel, by decide +kernel⟩, List.mem_of_getElem? (i := 509) (by decide +kernel), List.mem_of_getElem? (i := 782) (by decide +kernel), List.mem_of_getElem? (i := 783) (by decide +kernel)⟩
def lw_privs_4 : List (MethodName × Nat) := [(⟨"ChunkedNodesModel", "watch", "()V"⟩, 37), (⟨"ChunkedNodesModel", "publish", "()V"⟩, 37), (⟨"ChunkedNodesModel", "find", "(I)I"⟩, 37), (⟨"ChunkedNodesModel", "dropParcel", "(I)V"⟩, 37), (⟨"ChunkedNodesModel", "busy", "()I"⟩, 37), (⟨"ChunkedNodesModel", "sayNumber", "(I)V"⟩, 37), (⟨"ChunkedNodesModel", "sayNotice", "(I)V"⟩, 37), (⟨"ChunkedNodesModel", "keep", "()V"⟩, 37), (⟨"ChunkedNodesModel", "again", "()V"⟩, 37)]
theorem lw_r4 : ∀ q ∈ lw_privs_4, lw_okq q := List.forall_mem_cons.mpr ⟨lw_p48, List.forall_mem_cons.mpr ⟨lw_p49, List.forall_mem_cons.mpr ⟨lw_p50, List.forall_mem_cons.mpr ⟨lw_p51, List.forall_mem_cons.mpr ⟨lw_p52, List.forall_mem_cons.mpr ⟨lw_p53, List.forall_mem_cons.mpr ⟨lw_p54, List.forall_mem_cons.mpr ⟨lw_p55, List.forall_mem_cons.mpr ⟨lw_p56, fun _ h => absurd h List.not_mem_nil⟩⟩⟩⟩⟩⟩⟩⟩⟩
def lw_privs : List (MethodName × Nat) := lw_privs_1 ++ (lw_privs_2 ++ (lw_privs_3 ++ (lw_privs_4)))
def lw_tbl : List Cond := k2_sels lw_privs ++ tables_1
theorem lw_privs_ok : ∀ q ∈ lw_privs, lw_okq q := by
  show ∀ q ∈ lw_privs_1 ++ (lw_privs_2 ++ (lw_privs_3 ++ (lw_privs_4))), lw_okq q
  exact List.forall_mem_append.mpr ⟨lw_r1, List.forall_mem_append.mpr ⟨lw_r2, List.forall_mem_append.mpr ⟨lw_r3, lw_r4⟩⟩⟩
-- ===== the words that a callee may take over (good), and those of nest mates =====
def cn_isn : Cond → Bool
  | .fieldLinkNest .. => true
  | .methodLinkNest .. => true
  | _ => false
def cn_T : List Cond := lw_tbl.filter goodWord
def cn_N : List Cond := lw_tbl.filter cn_isn
theorem cn_inT {w : Cond} (i : Nat) (h : lw_tbl[i]? = some w) (g : goodWord w = true) : w ∈ cn_T := List.mem_filter.mpr ⟨List.mem_of_getElem? h, g⟩
theorem cn_inN {w : Cond} (i : Nat) (h : lw_tbl[i]? = some w) (g : cn_isn w = true) : w ∈ cn_N := List.mem_filter.mpr ⟨List.mem_of_getElem? h, g⟩
def cn_RBy : String := "ChunkedNodes$Bytes"
def cn_TBy : u_T := fun k => match k with
  | 0 => ("ChunkedNodes$Bytes", "cells", "[B", true)
  | _ => ("ChunkedNodes$Bytes", "length", "I", false)
def cn_RCh : String := "ChunkedNodes$Channel"
def cn_TCh : u_T := fun k => match k with
  | 0 => ("ChunkedNodes$Channel", "message", "LChunkedNodes$Message;", true)
  | 1 => ("ChunkedNodes$Channel", "live", "Z", false)
  | 2 => ("ChunkedNodes$Channel", "begun", "Z", false)
  | 3 => ("ChunkedNodes$Channel", "latestSequence", "I", false)
  | 4 => ("ChunkedNodes$Channel", "partial", "Z", false)
  | 5 => ("ChunkedNodes$Channel", "partRequest", "I", false)
  | _ => ("ChunkedNodes$Channel", "partChunks", "I", false)
def cn_RIt : String := "ChunkedNodes$Item"
def cn_TIt : u_T := fun k => match k with
  | 0 => ("ChunkedNodes$Item", "rows", "[LChunkedNodes$Notice;", true)
  | 1 => ("ChunkedNodes$Item", "node", "I", false)
  | 2 => ("ChunkedNodes$Item", "capacity", "I", false)
  | 3 => ("ChunkedNodes$Item", "oldestGo", "Z", false)
  | _ => ("ChunkedNodes$Item", "waiting", "I", false)
def cn_RMe : String := "ChunkedNodes$Message"
def cn_TMe : u_T := fun k => match k with
  | 0 => ("ChunkedNodes$Message", "content", "LChunkedNodes$Bytes;", true)
  | 1 => ("ChunkedNodes$Message", "position", "I", false)
  | _ => ("ChunkedNodes$Message", "wellFormed", "Z", false)
def cn_RNo : String := "ChunkedNodes$Node"
def cn_TNo : u_T := fun k => match k with
  | 0 => ("ChunkedNodes$Node", "parent", "I", false)
  | 1 => ("ChunkedNodes$Node", "type", "I", false)
  | _ => ("ChunkedNodes$Node", "value", "LChunkedNodes$Bytes;", true)
def cn_RNt : String := "ChunkedNodes$Notice"
def cn_TNt : u_T := fun k => match k with
  | 0 => ("ChunkedNodes$Notice", "value", "LChunkedNodes$Bytes;", true)
  | _ => ("ChunkedNodes$Notice", "mark", "I", false)
def cn_RPa : String := "ChunkedNodes$Parcel"
def cn_TPa : u_T := fun k => match k with
  | 0 => ("ChunkedNodes$Parcel", "number", "I", false)
  | _ => ("ChunkedNodes$Parcel", "content", "LChunkedNodes$Bytes;", true)
def cn_RSf : String := "ChunkedNodes$Shelf"
def cn_TSf : u_T := fun k => match k with
  | 0 => ("ChunkedNodes$Shelf", "rows", "[LChunkedNodes$Parcel;", true)
  | 1 => ("ChunkedNodes$Shelf", "kept", "I", false)
  | _ => ("ChunkedNodes$Shelf", "latestNumber", "I", false)
def cn_RX : String := "ChunkedNodes"
def cn_TX : u_T := fun k => match k with
  | 0 => ("ChunkedNodes", "nodes", "[LChunkedNodes$Node;", true)
  | 1 => ("ChunkedNodes", "nodeCount", "I", false)
  | 2 => ("ChunkedNodes", "items", "[LChunkedNodes$Item;", true)
  | 3 => ("ChunkedNodes", "itemCount", "I", false)
  | 4 => ("ChunkedNodes", "shelf", "LChunkedNodes$Shelf;", true)
  | 5 => ("ChunkedNodes", "channel", "LChunkedNodes$Channel;", true)
  | 6 => ("ChunkedNodes", "reply", "LChunkedNodes$Bytes;", true)
  | 7 => ("ChunkedNodes", "replyRequest", "I", false)
  | 8 => ("ChunkedNodes", "incoming", "LChunkedNodes$Bytes;", true)
  | _ => ("ChunkedNodes", "acknowledged", "[I", true)
def cn_RM : String := "ChunkedNodesModel"
def cn_TM : u_T := fun k => match k with
  | 0 => ("ChunkedNodesModel", "isShut", "Z", false)
  | 1 => ("ChunkedNodesModel", "nodes", "I", false)
  | 2 => ("ChunkedNodesModel", "parent", "[I", false)
  | 3 => ("ChunkedNodesModel", "variable", "[Z", false)
  | 4 => ("ChunkedNodesModel", "type", "[I", false)
  | 5 => ("ChunkedNodesModel", "length", "[I", false)
  | 6 => ("ChunkedNodesModel", "held", "[I", false)
  | 7 => ("ChunkedNodesModel", "items", "I", false)
  | 8 => ("ChunkedNodesModel", "watched", "[I", false)
  | 9 => ("ChunkedNodesModel", "room", "[I", false)
  | 10 => ("ChunkedNodesModel", "oldestGo", "[Z", false)
  | 11 => ("ChunkedNodesModel", "waiting", "[I", false)
  | 12 => ("ChunkedNodesModel", "noticeLength", "[I", false)
  | 13 => ("ChunkedNodesModel", "noticeMark", "[I", false)
  | 14 => ("ChunkedNodesModel", "noticeByte", "[I", false)
  | 15 => ("ChunkedNodesModel", "kept", "I", false)
  | 16 => ("ChunkedNodesModel", "made", "I", false)
  | 17 => ("ChunkedNodesModel", "parcelNumber", "[I", false)
  | 18 => ("ChunkedNodesModel", "parcelLength", "[I", false)
  | 19 => ("ChunkedNodesModel", "parcelByte", "[I", false)
  | 20 => ("ChunkedNodesModel", "any", "Z", false)
  | 21 => ("ChunkedNodesModel", "latest", "I", false)
  | 22 => ("ChunkedNodesModel", "inPart", "Z", false)
  | 23 => ("ChunkedNodesModel", "chunks", "I", false)
  | 24 => ("ChunkedNodesModel", "asked", "I", false)
  | 25 => ("ChunkedNodesModel", "have", "I", false)
  | 26 => ("ChunkedNodesModel", "message", "[I", false)
  | 27 => ("ChunkedNodesModel", "at", "I", false)
  | 28 => ("ChunkedNodesModel", "good", "Z", false)
  | 29 => ("ChunkedNodesModel", "named", "I", false)
  | 30 => ("ChunkedNodesModel", "valueLength", "I", false)
  | 31 => ("ChunkedNodesModel", "value", "[I", false)
  | 32 => ("ChunkedNodesModel", "left", "[I", false)
  | 33 => ("ChunkedNodesModel", "answered", "Z", false)
  | 34 => ("ChunkedNodesModel", "answerTo", "I", false)
  | 35 => ("ChunkedNodesModel", "size", "I", false)
  | _ => ("ChunkedNodesModel", "out", "[I", false)
abbrev cn_cl : List vw_C := [(cn_RBy, cn_TBy, 2), (cn_RCh, cn_TCh, 7), (cn_RIt, cn_TIt, 5), (cn_RMe, cn_TMe, 3), (cn_RNo, cn_TNo, 3), (cn_RNt, cn_TNt, 2), (cn_RPa, cn_TPa, 2), (cn_RSf, cn_TSf, 3), (cn_RX, cn_TX, 10), (cn_RM, cn_TM, 37)]
def cn_F : List (List FieldType) := [[(.array .byte), .int], [(.object "ChunkedNodes$Message"), .boolean, .boolean, .int, .boolean, .int, .int], [(.array (.object "ChunkedNodes$Notice")), .int, .int, .boolean, .int], [(.object "ChunkedNodes$Bytes"), .int, .boolean], [.int, .int, (.object "ChunkedNodes$Bytes")], [(.object "ChunkedNodes$Bytes"), .int], [.int, (.object "ChunkedNodes$Bytes")], [(.array (.object "ChunkedNodes$Parcel")), .int, .int], [(.array (.object "ChunkedNodes$Node")), .int, (.array (.object "ChunkedNodes$Item")), .int, (.object "ChunkedNodes$Shelf"), (.object "ChunkedNodes$Channel"), (.object "ChunkedNodes$Bytes"), .int, (.object "ChunkedNodes$Bytes"), (.array .int)], [.boolean, .int, (.array .int), (.array .boolean), (.array .int), (.array .int), (.array .int), .int, (.array .int), (.array .int), (.array .boolean), (.array .int), (.array .int), (.array .int), (.array .int), .int, .int, (.array .int), (.array .int), (.array .int), .boolean, .int, .boolean, .int, .int, .int, (.array .int), .int, .boolean, .int, .int, (.array .int), (.array .int), .boolean, .int, .int, (.array .int)]]
def cn_ft (ci j : Nat) : FieldType := (cn_F.getD ci []).getD j .int
def cn_NF (ci : Nat) : Nat := (cn_F.getD ci []).length
def cn_cok (ci : Nat) (C : String) (T : u_T) (N : Nat) : Prop := cn_cl[ci]? = some (C, T, N) ∧ (∀ w ∈ u_ws C T N, w ∈ cn_T) ∧ (∀ k, k < N → parseFieldDescriptor (T k).2.2.1 = some (cn_ft ci k)) ∧ (∀ a, a < N → ∀ b, b < N → a ≠ b → (T a).2.1 ≠ (T b).2.1) ∧ cn_NF ci = N ∧ (∀ k, k < N → (T k).1 = C)
theorem cn_lay_By_0 : u_lay cn_RBy cn_TBy 0 ∈ cn_T := cn_inT 107 (by decide +kernel) (by decide +kernel)
theorem cn_lay_By_1 : u_lay cn_RBy cn_TBy 1 ∈ cn_T := cn_inT 109 (by decide +kernel) (by decide +kernel)
theorem cn_lays_By : ∀ w ∈ u_ws cn_RBy cn_TBy 2, w ∈ cn_T := by
  intro w hw
  obtain ⟨k, hk, rfl⟩ := List.mem_map.mp hw
  have hk : k < 2 := List.mem_range.mp hk
  match k, hk with
  | 0, _ => exact cn_lay_By_0
  | 1, _ => exact cn_lay_By_1
  | k + 2, h => exact absurd h (by omega)
theorem cn_ok_By : cn_cok 0 cn_RBy cn_TBy 2 := ⟨rfl, cn_lays_By, by decide +kernel, by decide +kernel, by decide +kernel, by decide +kernel⟩
theorem cn_lay_Ch_0 : u_lay cn_RCh cn_TCh 0 ∈ cn_T := cn_inT 171 (by decide +kernel) (by decide +kernel)
theorem cn_lay_Ch_1 : u_lay cn_RCh cn_TCh 1 ∈ cn_T := cn_inT 173 (by decide +kernel) (by decide +kernel)
theorem cn_lay_Ch_2 : u_lay cn_RCh cn_TCh 2 ∈ cn_T := cn_inT 175 (by decide +kernel) (by decide +kernel)
theorem cn_lay_Ch_3 : u_lay cn_RCh cn_TCh 3 ∈ cn_T := cn_inT 177 (by decide +kernel) (by decide +kernel)
theorem cn_lay_Ch_4 : u_lay cn_RCh cn_TCh 4 ∈ cn_T := cn_inT 179 (by decide +kernel) (by decide +kernel)
theorem cn_lay_Ch_5 : u_lay cn_RCh cn_TCh 5 ∈ cn_T := cn_inT 181 (by decide +kernel) (by decide +kernel)
theorem cn_lay_Ch_6 : u_lay cn_RCh cn_TCh 6 ∈ cn_T := cn_inT 183 (by decide +kernel) (by decide +kernel)
theorem cn_lays_Ch : ∀ w ∈ u_ws cn_RCh cn_TCh 7, w ∈ cn_T := by
  intro w hw
  obtain ⟨k, hk, rfl⟩ := List.mem_map.mp hw
  have hk : k < 7 := List.mem_range.mp hk
  match k, hk with
  | 0, _ => exact cn_lay_Ch_0
  | 1, _ => exact cn_lay_Ch_1
  | 2, _ => exact cn_lay_Ch_2
  | 3, _ => exact cn_lay_Ch_3
  | 4, _ => exact cn_lay_Ch_4
  | 5, _ => exact cn_lay_Ch_5
  | 6, _ => exact cn_lay_Ch_6
  | k + 7, h => exact absurd h (by omega)
theorem cn_ok_Ch : cn_cok 1 cn_RCh cn_TCh 7 := ⟨rfl, cn_lays_Ch, by decide +kernel, by decide +kernel, by decide +kernel, by decide +kernel⟩
theorem cn_lay_It_0 : u_lay cn_RIt cn_TIt 0 ∈ cn_T := cn_inT 240 (by decide +kernel) (by decide +kernel)
theorem cn_lay_It_1 : u_lay cn_RIt cn_TIt 1 ∈ cn_T := cn_inT 242 (by decide +kernel) (by decide +kernel)
theorem cn_lay_It_2 : u_lay cn_RIt cn_TIt 2 ∈ cn_T := cn_inT 244 (by decide +kernel) (by decide +kernel)
theorem cn_lay_It_3 : u_lay cn_RIt cn_TIt 3 ∈ cn_T := cn_inT 246 (by decide +kernel) (by decide +kernel)
theorem cn_lay_It_4 : u_lay cn_RIt cn_TIt 4 ∈ cn_T := cn_inT 248 (by decide +kernel) (by decide +kernel)
theorem cn_lays_It : ∀ w ∈ u_ws cn_RIt cn_TIt 5, w ∈ cn_T := by
  intro w hw
  obtain ⟨k, hk, rfl⟩ := List.mem_map.mp hw
  have hk : k < 5 := List.mem_range.mp hk
  match k, hk with
  | 0, _ => exact cn_lay_It_0
  | 1, _ => exact cn_lay_It_1
  | 2, _ => exact cn_lay_It_2
  | 3, _ => exact cn_lay_It_3
  | 4, _ => exact cn_lay_It_4
  | k + 5, h => exact absurd h (by omega)
theorem cn_ok_It : cn_cok 2 cn_RIt cn_TIt 5 := ⟨rfl, cn_lays_It, by decide +kernel, by decide +kernel, by decide +kernel, by decide +kernel⟩
theorem cn_lay_Me_0 : u_lay cn_RMe cn_TMe 0 ∈ cn_T := cn_inT 154 (by decide +kernel) (by decide +kernel)
theorem cn_lay_Me_1 : u_lay cn_RMe cn_TMe 1 ∈ cn_T := cn_inT 156 (by decide +kernel) (by decide +kernel)
theorem cn_lay_Me_2 : u_lay cn_RMe cn_TMe 2 ∈ cn_T := cn_inT 158 (by decide +kernel) (by decide +kernel)
theorem cn_lays_Me : ∀ w ∈ u_ws cn_RMe cn_TMe 3, w ∈ cn_T := by
  intro w hw
  obtain ⟨k, hk, rfl⟩ := List.mem_map.mp hw
  have hk : k < 3 := List.mem_range.mp hk
  match k, hk with
  | 0, _ => exact cn_lay_Me_0
  | 1, _ => exact cn_lay_Me_1
  | 2, _ => exact cn_lay_Me_2
  | k + 3, h => exact absurd h (by omega)
theorem cn_ok_Me : cn_cok 3 cn_RMe cn_TMe 3 := ⟨rfl, cn_lays_Me, by decide +kernel, by decide +kernel, by decide +kernel, by decide +kernel⟩
theorem cn_lay_No_0 : u_lay cn_RNo cn_TNo 0 ∈ cn_T := cn_inT 201 (by decide +kernel) (by decide +kernel)
theorem cn_lay_No_1 : u_lay cn_RNo cn_TNo 1 ∈ cn_T := cn_inT 203 (by decide +kernel) (by decide +kernel)
theorem cn_lay_No_2 : u_lay cn_RNo cn_TNo 2 ∈ cn_T := cn_inT 205 (by decide +kernel) (by decide +kernel)
theorem cn_lays_No : ∀ w ∈ u_ws cn_RNo cn_TNo 3, w ∈ cn_T := by
  intro w hw
  obtain ⟨k, hk, rfl⟩ := List.mem_map.mp hw
  have hk : k < 3 := List.mem_range.mp hk
  match k, hk with
  | 0, _ => exact cn_lay_No_0
  | 1, _ => exact cn_lay_No_1
  | 2, _ => exact cn_lay_No_2
  | k + 3, h => exact absurd h (by omega)
theorem cn_ok_No : cn_cok 4 cn_RNo cn_TNo 3 := ⟨rfl, cn_lays_No, by decide +kernel, by decide +kernel, by decide +kernel, by decide +kernel⟩
theorem cn_lay_Nt_0 : u_lay cn_RNt cn_TNt 0 ∈ cn_T := cn_inT 228 (by decide +kernel) (by decide +kernel)
theorem cn_lay_Nt_1 : u_lay cn_RNt cn_TNt 1 ∈ cn_T := cn_inT 230 (by decide +kernel) (by decide +kernel)
theorem cn_lays_Nt : ∀ w ∈ u_ws cn_RNt cn_TNt 2, w ∈ cn_T := by
  intro w hw
  obtain ⟨k, hk, rfl⟩ := List.mem_map.mp hw
  have hk : k < 2 := List.mem_range.mp hk
  match k, hk with
  | 0, _ => exact cn_lay_Nt_0
  | 1, _ => exact cn_lay_Nt_1
  | k + 2, h => exact absurd h (by omega)
theorem cn_ok_Nt : cn_cok 5 cn_RNt cn_TNt 2 := ⟨rfl, cn_lays_Nt, by decide +kernel, by decide +kernel, by decide +kernel, by decide +kernel⟩
theorem cn_lay_Pa_0 : u_lay cn_RPa cn_TPa 0 ∈ cn_T := cn_inT 118 (by decide +kernel) (by decide +kernel)
theorem cn_lay_Pa_1 : u_lay cn_RPa cn_TPa 1 ∈ cn_T := cn_inT 120 (by decide +kernel) (by decide +kernel)
theorem cn_lays_Pa : ∀ w ∈ u_ws cn_RPa cn_TPa 2, w ∈ cn_T := by
  intro w hw
  obtain ⟨k, hk, rfl⟩ := List.mem_map.mp hw
  have hk : k < 2 := List.mem_range.mp hk
  match k, hk with
  | 0, _ => exact cn_lay_Pa_0
  | 1, _ => exact cn_lay_Pa_1
  | k + 2, h => exact absurd h (by omega)
theorem cn_ok_Pa : cn_cok 6 cn_RPa cn_TPa 2 := ⟨rfl, cn_lays_Pa, by decide +kernel, by decide +kernel, by decide +kernel, by decide +kernel⟩
theorem cn_lay_Sf_0 : u_lay cn_RSf cn_TSf 0 ∈ cn_T := cn_inT 128 (by decide +kernel) (by decide +kernel)
theorem cn_lay_Sf_1 : u_lay cn_RSf cn_TSf 1 ∈ cn_T := cn_inT 130 (by decide +kernel) (by decide +kernel)
theorem cn_lay_Sf_2 : u_lay cn_RSf cn_TSf 2 ∈ cn_T := cn_inT 132 (by decide +kernel) (by decide +kernel)
theorem cn_lays_Sf : ∀ w ∈ u_ws cn_RSf cn_TSf 3, w ∈ cn_T := by
  intro w hw
  obtain ⟨k, hk, rfl⟩ := List.mem_map.mp hw
  have hk : k < 3 := List.mem_range.mp hk
  match k, hk with
  | 0, _ => exact cn_lay_Sf_0
  | 1, _ => exact cn_lay_Sf_1
  | 2, _ => exact cn_lay_Sf_2
  | k + 3, h => exact absurd h (by omega)
theorem cn_ok_Sf : cn_cok 7 cn_RSf cn_TSf 3 := ⟨rfl, cn_lays_Sf, by decide +kernel, by decide +kernel, by decide +kernel, by decide +kernel⟩
theorem cn_lay_X_0 : u_lay cn_RX cn_TX 0 ∈ cn_T := cn_inT 275 (by decide +kernel) (by decide +kernel)
theorem cn_lay_X_1 : u_lay cn_RX cn_TX 1 ∈ cn_T := cn_inT 277 (by decide +kernel) (by decide +kernel)
theorem cn_lay_X_2 : u_lay cn_RX cn_TX 2 ∈ cn_T := cn_inT 279 (by decide +kernel) (by decide +kernel)
theorem cn_lay_X_3 : u_lay cn_RX cn_TX 3 ∈ cn_T := cn_inT 281 (by decide +kernel) (by decide +kernel)
theorem cn_lay_X_4 : u_lay cn_RX cn_TX 4 ∈ cn_T := cn_inT 283 (by decide +kernel) (by decide +kernel)
theorem cn_lay_X_5 : u_lay cn_RX cn_TX 5 ∈ cn_T := cn_inT 285 (by decide +kernel) (by decide +kernel)
theorem cn_lay_X_6 : u_lay cn_RX cn_TX 6 ∈ cn_T := cn_inT 287 (by decide +kernel) (by decide +kernel)
theorem cn_lay_X_7 : u_lay cn_RX cn_TX 7 ∈ cn_T := cn_inT 289 (by decide +kernel) (by decide +kernel)
theorem cn_lay_X_8 : u_lay cn_RX cn_TX 8 ∈ cn_T := cn_inT 291 (by decide +kernel) (by decide +kernel)
theorem cn_lay_X_9 : u_lay cn_RX cn_TX 9 ∈ cn_T := cn_inT 293 (by decide +kernel) (by decide +kernel)
theorem cn_lays_X : ∀ w ∈ u_ws cn_RX cn_TX 10, w ∈ cn_T := by
  intro w hw
  obtain ⟨k, hk, rfl⟩ := List.mem_map.mp hw
  have hk : k < 10 := List.mem_range.mp hk
  match k, hk with
  | 0, _ => exact cn_lay_X_0
  | 1, _ => exact cn_lay_X_1
  | 2, _ => exact cn_lay_X_2
  | 3, _ => exact cn_lay_X_3
  | 4, _ => exact cn_lay_X_4
  | 5, _ => exact cn_lay_X_5
  | 6, _ => exact cn_lay_X_6
  | 7, _ => exact cn_lay_X_7
  | 8, _ => exact cn_lay_X_8
  | 9, _ => exact cn_lay_X_9
  | k + 10, h => exact absurd h (by omega)
theorem cn_ok_X : cn_cok 8 cn_RX cn_TX 10 := ⟨rfl, cn_lays_X, by decide +kernel, by decide +kernel, by decide +kernel, by decide +kernel⟩
theorem cn_lay_M_0 : u_lay cn_RM cn_TM 0 ∈ cn_T := cn_inT 608 (by decide +kernel) (by decide +kernel)
theorem cn_lay_M_1 : u_lay cn_RM cn_TM 1 ∈ cn_T := cn_inT 610 (by decide +kernel) (by decide +kernel)
theorem cn_lay_M_2 : u_lay cn_RM cn_TM 2 ∈ cn_T := cn_inT 612 (by decide +kernel) (by decide +kernel)
theorem cn_lay_M_3 : u_lay cn_RM cn_TM 3 ∈ cn_T := cn_inT 614 (by decide +kernel) (by decide +kernel)
theorem cn_lay_M_4 : u_lay cn_RM cn_TM 4 ∈ cn_T := cn_inT 616 (by decide +kernel) (by decide +kernel)
theorem cn_lay_M_5 : u_lay cn_RM cn_TM 5 ∈ cn_T := cn_inT 618 (by decide +kernel) (by decide +kernel)
theorem cn_lay_M_6 : u_lay cn_RM cn_TM 6 ∈ cn_T := cn_inT 620 (by decide +kernel) (by decide +kernel)
theorem cn_lay_M_7 : u_lay cn_RM cn_TM 7 ∈ cn_T := cn_inT 622 (by decide +kernel) (by decide +kernel)
theorem cn_lay_M_8 : u_lay cn_RM cn_TM 8 ∈ cn_T := cn_inT 624 (by decide +kernel) (by decide +kernel)
theorem cn_lay_M_9 : u_lay cn_RM cn_TM 9 ∈ cn_T := cn_inT 626 (by decide +kernel) (by decide +kernel)
theorem cn_lay_M_10 : u_lay cn_RM cn_TM 10 ∈ cn_T := cn_inT 628 (by decide +kernel) (by decide +kernel)
theorem cn_lay_M_11 : u_lay cn_RM cn_TM 11 ∈ cn_T := cn_inT 630 (by decide +kernel) (by decide +kernel)
theorem cn_lay_M_12 : u_lay cn_RM cn_TM 12 ∈ cn_T := cn_inT 632 (by decide +kernel) (by decide +kernel)
theorem cn_lay_M_13 : u_lay cn_RM cn_TM 13 ∈ cn_T := cn_inT 634 (by decide +kernel) (by decide +kernel)
theorem cn_lay_M_14 : u_lay cn_RM cn_TM 14 ∈ cn_T := cn_inT 636 (by decide +kernel) (by decide +kernel)
theorem cn_lay_M_15 : u_lay cn_RM cn_TM 15 ∈ cn_T := cn_inT 638 (by decide +kernel) (by decide +kernel)
theorem cn_lay_M_16 : u_lay cn_RM cn_TM 16 ∈ cn_T := cn_inT 640 (by decide +kernel) (by decide +kernel)
theorem cn_lay_M_17 : u_lay cn_RM cn_TM 17 ∈ cn_T := cn_inT 642 (by decide +kernel) (by decide +kernel)
theorem cn_lay_M_18 : u_lay cn_RM cn_TM 18 ∈ cn_T := cn_inT 644 (by decide +kernel) (by decide +kernel)
theorem cn_lay_M_19 : u_lay cn_RM cn_TM 19 ∈ cn_T := cn_inT 646 (by decide +kernel) (by decide +kernel)
theorem cn_lay_M_20 : u_lay cn_RM cn_TM 20 ∈ cn_T := cn_inT 648 (by decide +kernel) (by decide +kernel)
theorem cn_lay_M_21 : u_lay cn_RM cn_TM 21 ∈ cn_T := cn_inT 650 (by decide +kernel) (by decide +kernel)
theorem cn_lay_M_22 : u_lay cn_RM cn_TM 22 ∈ cn_T := cn_inT 652 (by decide +kernel) (by decide +kernel)
theorem cn_lay_M_23 : u_lay cn_RM cn_TM 23 ∈ cn_T := cn_inT 654 (by decide +kernel) (by decide +kernel)
theorem cn_lay_M_24 : u_lay cn_RM cn_TM 24 ∈ cn_T := cn_inT 656 (by decide +kernel) (by decide +kernel)
theorem cn_lay_M_25 : u_lay cn_RM cn_TM 25 ∈ cn_T := cn_inT 658 (by decide +kernel) (by decide +kernel)
theorem cn_lay_M_26 : u_lay cn_RM cn_TM 26 ∈ cn_T := cn_inT 660 (by decide +kernel) (by decide +kernel)
theorem cn_lay_M_27 : u_lay cn_RM cn_TM 27 ∈ cn_T := cn_inT 662 (by decide +kernel) (by decide +kernel)
theorem cn_lay_M_28 : u_lay cn_RM cn_TM 28 ∈ cn_T := cn_inT 664 (by decide +kernel) (by decide +kernel)
theorem cn_lay_M_29 : u_lay cn_RM cn_TM 29 ∈ cn_T := cn_inT 666 (by decide +kernel) (by decide +kernel)
theorem cn_lay_M_30 : u_lay cn_RM cn_TM 30 ∈ cn_T := cn_inT 668 (by decide +kernel) (by decide +kernel)
theorem cn_lay_M_31 : u_lay cn_RM cn_TM 31 ∈ cn_T := cn_inT 670 (by decide +kernel) (by decide +kernel)
theorem cn_lay_M_32 : u_lay cn_RM cn_TM 32 ∈ cn_T := cn_inT 672 (by decide +kernel) (by decide +kernel)
theorem cn_lay_M_33 : u_lay cn_RM cn_TM 33 ∈ cn_T := cn_inT 674 (by decide +kernel) (by decide +kernel)
theorem cn_lay_M_34 : u_lay cn_RM cn_TM 34 ∈ cn_T := cn_inT 676 (by decide +kernel) (by decide +kernel)
theorem cn_lay_M_35 : u_lay cn_RM cn_TM 35 ∈ cn_T := cn_inT 678 (by decide +kernel) (by decide +kernel)
theorem cn_lay_M_36 : u_lay cn_RM cn_TM 36 ∈ cn_T := cn_inT 680 (by decide +kernel) (by decide +kernel)
theorem cn_lays_M : ∀ w ∈ u_ws cn_RM cn_TM 37, w ∈ cn_T := by
  intro w hw
  obtain ⟨k, hk, rfl⟩ := List.mem_map.mp hw
  have hk : k < 37 := List.mem_range.mp hk
  match k, hk with
  | 0, _ => exact cn_lay_M_0
  | 1, _ => exact cn_lay_M_1
  | 2, _ => exact cn_lay_M_2
  | 3, _ => exact cn_lay_M_3
  | 4, _ => exact cn_lay_M_4
  | 5, _ => exact cn_lay_M_5
  | 6, _ => exact cn_lay_M_6
  | 7, _ => exact cn_lay_M_7
  | 8, _ => exact cn_lay_M_8
  | 9, _ => exact cn_lay_M_9
  | 10, _ => exact cn_lay_M_10
  | 11, _ => exact cn_lay_M_11
  | 12, _ => exact cn_lay_M_12
  | 13, _ => exact cn_lay_M_13
  | 14, _ => exact cn_lay_M_14
  | 15, _ => exact cn_lay_M_15
  | 16, _ => exact cn_lay_M_16
  | 17, _ => exact cn_lay_M_17
  | 18, _ => exact cn_lay_M_18
  | 19, _ => exact cn_lay_M_19
  | 20, _ => exact cn_lay_M_20
  | 21, _ => exact cn_lay_M_21
  | 22, _ => exact cn_lay_M_22
  | 23, _ => exact cn_lay_M_23
  | 24, _ => exact cn_lay_M_24
  | 25, _ => exact cn_lay_M_25
  | 26, _ => exact cn_lay_M_26
  | 27, _ => exact cn_lay_M_27
  | 28, _ => exact cn_lay_M_28
  | 29, _ => exact cn_lay_M_29
  | 30, _ => exact cn_lay_M_30
  | 31, _ => exact cn_lay_M_31
  | 32, _ => exact cn_lay_M_32
  | 33, _ => exact cn_lay_M_33
  | 34, _ => exact cn_lay_M_34
  | 35, _ => exact cn_lay_M_35
  | 36, _ => exact cn_lay_M_36
  | k + 37, h => exact absurd h (by omega)
theorem cn_ok_M : cn_cok 9 cn_RM cn_TM 37 := ⟨rfl, cn_lays_M, by decide +kernel, by decide +kernel, by decide +kernel, by decide +kernel⟩
end
section
abbrev cn_M : Type := MethodName × ByteArray × Nat × Option FieldType
def cn_mok (mi : cn_M) : Prop := Cond.initialized mi.1.cls ∈ cn_T ∧ Cond.code mi.1 mi.2.1 mi.2.2.1 mi.2.2.2 ∈ cn_T ∧ (mi.1.cls ≠ "java/lang/invoke/MethodHandle" ∧ mi.1.cls ≠ "java/lang/invoke/VarHandle") ∧ plainName mi.1.cls = true ∧ mi.2.2.1 ≤ 21
abbrev cn_np (mi : cn_M) (n : Nat) : Prop := (parseMethodDescriptor mi.1.desc).map (fun d => d.parameters.length) = some n
/-- a field by its entry in the pool of the class own: field k of class ci -/
def cn_fl (own : String) (index ci k : Nat) : Prop := ∃ (C : String) (T : u_T) (N : Nat), cn_cok ci C T N ∧ k < N ∧ (Cond.fieldLink own index C (T k).2.1 (T k).2.2.1 ∈ cn_T ∨ ∃ host : String, Cond.fieldLinkNest own index C (T k).2.1 (T k).2.2.1 host ∈ cn_N)
def cn_ml (own : String) (index : Nat) (mj : cn_M) : Prop := Cond.methodLink own index mj.1 ∈ cn_T ∨ ∃ host : String, Cond.methodLinkNest own index mj.1 host ∈ cn_N
/-- a method called by invokevirtual (v), invokespecial <init> (i), invokestatic (s): method mj of the class cj with n parameters -/
def cn_mv (own : String) (index : Nat) (mj : cn_M) (cj n : Nat) : Prop := cn_ml own index mj ∧ Cond.instanceMethod mj.1 ∈ cn_T ∧ Cond.selects mj.1.cls mj.1 mj.1 ∈ cn_T ∧ cn_mok mj ∧ cn_np mj n ∧ (cn_cl[cj]?).map (fun q => q.1) = some mj.1.cls
def cn_mi (own : String) (index : Nat) (mj : cn_M) (n : Nat) : Prop := cn_ml own index mj ∧ Cond.instanceMethod mj.1 ∈ cn_T ∧ mj.1.name = "<init>" ∧ cn_mok mj ∧ cn_np mj n ∧ mj.2.2.2 = none
def cn_ms (own : String) (index : Nat) (mj : cn_M) (n : Nat) : Prop := Cond.methodLink own index mj.1 ∈ cn_T ∧ Cond.static mj.1 ∈ cn_T ∧ cn_mok mj ∧ cn_np mj n
/-- new: class ci with N fields -/
def cn_nw (own : String) (index ci : Nat) : Prop := ∃ (C : String) (T : u_T) (N : Nat), cn_cok ci C T N ∧ Cond.classLink own index C ∈ cn_T ∧ Cond.instantiable C N ∈ cn_T ∧ Cond.initialized C ∈ cn_T
def mi_X_init : cn_M := (⟨"ChunkedNodes", "<init>", "()V"⟩, prog_1_method_1_code, 2, none)
theorem mo_X_init : cn_mok mi_X_init := ⟨(cn_inT 58 (by decide +kernel) (by decide +kernel)), (cn_inT 74 (by decide +kernel) (by decide +kernel)), ⟨by decide +kernel, by decide +kernel⟩, by decide +kernel, by decide +kernel⟩
def mi_Sf_init : cn_M := (⟨"ChunkedNodes$Shelf", "<init>", "()V"⟩, prog_9_method_1_code, 2, none)
theorem mo_Sf_init : cn_mok mi_Sf_init := ⟨(cn_inT 59 (by decide +kernel) (by decide +kernel)), (cn_inT 86 (by decide +kernel) (by decide +kernel)), ⟨by decide +kernel, by decide +kernel⟩, by decide +kernel, by decide +kernel⟩
def mi_Pa_init : cn_M := (⟨"ChunkedNodes$Parcel", "<init>", "()V"⟩, prog_8_method_1_code, 1, none)
theorem mo_Pa_init : cn_mok mi_Pa_init := ⟨(cn_inT 60 (by decide +kernel) (by decide +kernel)), (cn_inT 93 (by decide +kernel) (by decide +kernel)), ⟨by decide +kernel, by decide +kernel⟩, by decide +kernel, by decide +kernel⟩
def mi_By_init : cn_M := (⟨"ChunkedNodes$Bytes", "<init>", "(I)V"⟩, prog_2_method_1_code, 2, none)
theorem mo_By_init : cn_mok mi_By_init := ⟨(cn_inT 61 (by decide +kernel) (by decide +kernel)), (cn_inT 99 (by decide +kernel) (by decide +kernel)), ⟨by decide +kernel, by decide +kernel⟩, by decide +kernel, by decide +kernel⟩
def mi_Ch_init : cn_M := (⟨"ChunkedNodes$Channel", "<init>", "()V"⟩, prog_3_method_1_code, 1, none)
theorem mo_Ch_init : cn_mok mi_Ch_init := ⟨(cn_inT 62 (by decide +kernel) (by decide +kernel)), (cn_inT 139 (by decide +kernel) (by decide +kernel)), ⟨by decide +kernel, by decide +kernel⟩, by decide +kernel, by decide +kernel⟩
def mi_Me_init : cn_M := (⟨"ChunkedNodes$Message", "<init>", "()V"⟩, prog_5_method_1_code, 1, none)
theorem mo_Me_init : cn_mok mi_Me_init := ⟨(cn_inT 63 (by decide +kernel) (by decide +kernel)), (cn_inT 145 (by decide +kernel) (by decide +kernel)), ⟨by decide +kernel, by decide +kernel⟩, by decide +kernel, by decide +kernel⟩
def mi_No_init : cn_M := (⟨"ChunkedNodes$Node", "<init>", "()V"⟩, prog_6_method_1_code, 1, none)
theorem mo_No_init : cn_mok mi_No_init := ⟨(cn_inT 64 (by decide +kernel) (by decide +kernel)), (cn_inT 191 (by decide +kernel) (by decide +kernel)), ⟨by decide +kernel, by decide +kernel⟩, by decide +kernel, by decide +kernel⟩
def mi_It_init : cn_M := (⟨"ChunkedNodes$Item", "<init>", "()V"⟩, prog_4_method_1_code, 2, none)
theorem mo_It_init : cn_mok mi_It_init := ⟨(cn_inT 65 (by decide +kernel) (by decide +kernel)), (cn_inT 212 (by decide +kernel) (by decide +kernel)), ⟨by decide +kernel, by decide +kernel⟩, by decide +kernel, by decide +kernel⟩
def mi_Nt_init : cn_M := (⟨"ChunkedNodes$Notice", "<init>", "()V"⟩, prog_7_method_1_code, 1, none)
theorem mo_Nt_init : cn_mok mi_Nt_init := ⟨(cn_inT 66 (by decide +kernel) (by decide +kernel)), (cn_inT 219 (by decide +kernel) (by decide +kernel)), ⟨by decide +kernel, by decide +kernel⟩, by decide +kernel, by decide +kernel⟩
def mi_No_become : cn_M := (⟨"ChunkedNodes$Node", "become", "(II)V"⟩, prog_6_method_2_code, 3, none)
theorem mo_No_become : cn_mok mi_No_become := ⟨(cn_inT 64 (by decide +kernel) (by decide +kernel)), (cn_inT 254 (by decide +kernel) (by decide +kernel)), ⟨by decide +kernel, by decide +kernel⟩, by decide +kernel, by decide +kernel⟩
def mi_By_add : cn_M := (⟨"ChunkedNodes$Bytes", "add", "(I)V"⟩, prog_2_method_5_code, 2, none)
theorem mo_By_add : cn_mok mi_By_add := ⟨(cn_inT 61 (by decide +kernel) (by decide +kernel)), (cn_inT 258 (by decide +kernel) (by decide +kernel)), ⟨by decide +kernel, by decide +kernel⟩, by decide +kernel, by decide +kernel⟩
def mi_By_addNumber : cn_M := (⟨"ChunkedNodes$Bytes", "addNumber", "(JI)V"⟩, prog_2_method_6_code, 5, none)
theorem mo_By_addNumber : cn_mok mi_By_addNumber := ⟨(cn_inT 61 (by decide +kernel) (by decide +kernel)), (cn_inT 262 (by decide +kernel) (by decide +kernel)), ⟨by decide +kernel, by decide +kernel⟩, by decide +kernel, by decide +kernel⟩
def mi_X_open : cn_M := (⟨"ChunkedNodes", "open", "()V"⟩, prog_1_method_2_code, 1, none)
theorem mo_X_open : cn_mok mi_X_open := ⟨(cn_inT 58 (by decide +kernel) (by decide +kernel)), (cn_inT 299 (by decide +kernel) (by decide +kernel)), ⟨by decide +kernel, by decide +kernel⟩, by decide +kernel, by decide +kernel⟩
def mi_Ch_restart : cn_M := (⟨"ChunkedNodes$Channel", "restart", "()V"⟩, prog_3_method_2_code, 1, none)
theorem mo_Ch_restart : cn_mok mi_Ch_restart := ⟨(cn_inT 62 (by decide +kernel) (by decide +kernel)), (cn_inT 303 (by decide +kernel) (by decide +kernel)), ⟨by decide +kernel, by decide +kernel⟩, by decide +kernel, by decide +kernel⟩
def mi_Sf_restart : cn_M := (⟨"ChunkedNodes$Shelf", "restart", "()V"⟩, prog_9_method_2_code, 1, none)
theorem mo_Sf_restart : cn_mok mi_Sf_restart := ⟨(cn_inT 59 (by decide +kernel) (by decide +kernel)), (cn_inT 307 (by decide +kernel) (by decide +kernel)), ⟨by decide +kernel, by decide +kernel⟩, by decide +kernel, by decide +kernel⟩
def mi_By_clear : cn_M := (⟨"ChunkedNodes$Bytes", "clear", "()V"⟩, prog_2_method_3_code, 1, none)
theorem mo_By_clear : cn_mok mi_By_clear := ⟨(cn_inT 61 (by decide +kernel) (by decide +kernel)), (cn_inT 311 (by decide +kernel) (by decide +kernel)), ⟨by decide +kernel, by decide +kernel⟩, by decide +kernel, by decide +kernel⟩
def mi_X_isOpen : cn_M := (⟨"ChunkedNodes", "isOpen", "()Z"⟩, prog_1_method_3_code, 1, some .boolean)
theorem mo_X_isOpen : cn_mok mi_X_isOpen := ⟨(cn_inT 58 (by decide +kernel) (by decide +kernel)), (cn_inT 315 (by decide +kernel) (by decide +kernel)), ⟨by decide +kernel, by decide +kernel⟩, by decide +kernel, by decide +kernel⟩
def mi_X_folder : cn_M := (⟨"ChunkedNodes", "folder", "(I)I"⟩, prog_1_method_4_code, 2, some .int)
theorem mo_X_folder : cn_mok mi_X_folder := ⟨(cn_inT 58 (by decide +kernel) (by decide +kernel)), (cn_inT 319 (by decide +kernel) (by decide +kernel)), ⟨by decide +kernel, by decide +kernel⟩, by decide +kernel, by decide +kernel⟩
def mi_X_addNode : cn_M := (⟨"ChunkedNodes", "addNode", "(II)I"⟩, prog_1_method_19_code, 3, some .int)
theorem mo_X_addNode : cn_mok mi_X_addNode := ⟨(cn_inT 58 (by decide +kernel) (by decide +kernel)), (cn_inT 323 (by decide +kernel) (by decide +kernel)), ⟨by decide +kernel, by decide +kernel⟩, by decide +kernel, by decide +kernel⟩
def mi_X_isNode : cn_M := (⟨"ChunkedNodes", "isNode", "(I)Z"⟩, prog_1_method_17_code, 2, some .boolean)
theorem mo_X_isNode : cn_mok mi_X_isNode := ⟨(cn_inT 58 (by decide +kernel) (by decide +kernel)), (cn_inT 327 (by decide +kernel) (by decide +kernel)), ⟨by decide +kernel, by decide +kernel⟩, by decide +kernel, by decide +kernel⟩
def mi_X_isVariable : cn_M := (⟨"ChunkedNodes", "isVariable", "(I)Z"⟩, prog_1_method_18_code, 2, some .boolean)
theorem mo_X_isVariable : cn_mok mi_X_isVariable := ⟨(cn_inT 58 (by decide +kernel) (by decide +kernel)), (cn_inT 331 (by decide +kernel) (by decide +kernel)), ⟨by decide +kernel, by decide +kernel⟩, by decide +kernel, by decide +kernel⟩
def mi_X_variable : cn_M := (⟨"ChunkedNodes", "variable", "(II)I"⟩, prog_1_method_5_code, 3, some .int)
theorem mo_X_variable : cn_mok mi_X_variable := ⟨(cn_inT 58 (by decide +kernel) (by decide +kernel)), (cn_inT 335 (by decide +kernel) (by decide +kernel)), ⟨by decide +kernel, by decide +kernel⟩, by decide +kernel, by decide +kernel⟩
def mi_X_isVariableType : cn_M := (⟨"ChunkedNodes", "isVariableType", "(I)Z"⟩, prog_1_method_16_code, 1, some .boolean)
theorem mo_X_isVariableType : cn_mok mi_X_isVariableType := ⟨(cn_inT 58 (by decide +kernel) (by decide +kernel)), (cn_inT 338 (by decide +kernel) (by decide +kernel)), ⟨by decide +kernel, by decide +kernel⟩, by decide +kernel, by decide +kernel⟩
def mi_X_poke : cn_M := (⟨"ChunkedNodes", "poke", "(IJ)Z"⟩, prog_1_method_6_code, 5, some .boolean)
theorem mo_X_poke : cn_mok mi_X_poke := ⟨(cn_inT 58 (by decide +kernel) (by decide +kernel)), (cn_inT 342 (by decide +kernel) (by decide +kernel)), ⟨by decide +kernel, by decide +kernel⟩, by decide +kernel, by decide +kernel⟩
def mi_X_changeValue : cn_M := (⟨"ChunkedNodes", "changeValue", "(I)Z"⟩, prog_1_method_20_code, 4, some .boolean)
theorem mo_X_changeValue : cn_mok mi_X_changeValue := ⟨(cn_inT 58 (by decide +kernel) (by decide +kernel)), (cn_inT 348 (by decide +kernel) (by decide +kernel)), ⟨by decide +kernel, by decide +kernel⟩, by decide +kernel, by decide +kernel⟩
def mi_By_isSameAs : cn_M := (⟨"ChunkedNodes$Bytes", "isSameAs", "(LChunkedNodes$Bytes;)Z"⟩, prog_2_method_8_code, 3, some .boolean)
theorem mo_By_isSameAs : cn_mok mi_By_isSameAs := ⟨(cn_inT 61 (by decide +kernel) (by decide +kernel)), (cn_inT 352 (by decide +kernel) (by decide +kernel)), ⟨by decide +kernel, by decide +kernel⟩, by decide +kernel, by decide +kernel⟩
def mi_By_append : cn_M := (⟨"ChunkedNodes$Bytes", "append", "(LChunkedNodes$Bytes;)V"⟩, prog_2_method_7_code, 3, none)
theorem mo_By_append : cn_mok mi_By_append := ⟨(cn_inT 61 (by decide +kernel) (by decide +kernel)), (cn_inT 356 (by decide +kernel) (by decide +kernel)), ⟨by decide +kernel, by decide +kernel⟩, by decide +kernel, by decide +kernel⟩
def mi_It_addNotice : cn_M := (⟨"ChunkedNodes$Item", "addNotice", "(LChunkedNodes$Bytes;)V"⟩, prog_4_method_3_code, 4, none)
theorem mo_It_addNotice : cn_mok mi_It_addNotice := ⟨(cn_inT 65 (by decide +kernel) (by decide +kernel)), (cn_inT 366 (by decide +kernel) (by decide +kernel)), ⟨by decide +kernel, by decide +kernel⟩, by decide +kernel, by decide +kernel⟩
def mi_It_discard : cn_M := (⟨"ChunkedNodes$Item", "discard", "()V"⟩, prog_4_method_4_code, 1, none)
theorem mo_It_discard : cn_mok mi_It_discard := ⟨(cn_inT 65 (by decide +kernel) (by decide +kernel)), (cn_inT 370 (by decide +kernel) (by decide +kernel)), ⟨by decide +kernel, by decide +kernel⟩, by decide +kernel, by decide +kernel⟩
def mi_It_removeFirst : cn_M := (⟨"ChunkedNodes$Item", "removeFirst", "()LChunkedNodes$Notice;"⟩, prog_4_method_5_code, 3, some (.object "ChunkedNodes$Notice"))
theorem mo_It_removeFirst : cn_mok mi_It_removeFirst := ⟨(cn_inT 65 (by decide +kernel) (by decide +kernel)), (cn_inT 374 (by decide +kernel) (by decide +kernel)), ⟨by decide +kernel, by decide +kernel⟩, by decide +kernel, by decide +kernel⟩
def mi_X_chunk : cn_M := (⟨"ChunkedNodes", "chunk", "(IIIJI)I"⟩, prog_1_method_7_code, 7, some .int)
theorem mo_X_chunk : cn_mok mi_X_chunk := ⟨(cn_inT 58 (by decide +kernel) (by decide +kernel)), (cn_inT 380 (by decide +kernel) (by decide +kernel)), ⟨by decide +kernel, by decide +kernel⟩, by decide +kernel, by decide +kernel⟩
def mi_Ch_mustClose : cn_M := (⟨"ChunkedNodes$Channel", "mustClose", "(IIII)Z"⟩, prog_3_method_4_code, 5, some .boolean)
theorem mo_Ch_mustClose : cn_mok mi_Ch_mustClose := ⟨(cn_inT 62 (by decide +kernel) (by decide +kernel)), (cn_inT 384 (by decide +kernel) (by decide +kernel)), ⟨by decide +kernel, by decide +kernel⟩, by decide +kernel, by decide +kernel⟩
def mi_Ch_isNext : cn_M := (⟨"ChunkedNodes$Channel", "isNext", "(I)Z"⟩, prog_3_method_5_code, 2, some .boolean)
theorem mo_Ch_isNext : cn_mok mi_Ch_isNext := ⟨(cn_inT 62 (by decide +kernel) (by decide +kernel)), (cn_inT 388 (by decide +kernel) (by decide +kernel)), ⟨by decide +kernel, by decide +kernel⟩, by decide +kernel, by decide +kernel⟩
def mi_Ch_close : cn_M := (⟨"ChunkedNodes$Channel", "close", "()V"⟩, prog_3_method_3_code, 1, none)
theorem mo_Ch_close : cn_mok mi_Ch_close := ⟨(cn_inT 62 (by decide +kernel) (by decide +kernel)), (cn_inT 392 (by decide +kernel) (by decide +kernel)), ⟨by decide +kernel, by decide +kernel⟩, by decide +kernel, by decide +kernel⟩
def mi_Ch_take : cn_M := (⟨"ChunkedNodes$Channel", "take", "(IIIJI)V"⟩, prog_3_method_6_code, 7, none)
theorem mo_Ch_take : cn_mok mi_Ch_take := ⟨(cn_inT 62 (by decide +kernel) (by decide +kernel)), (cn_inT 396 (by decide +kernel) (by decide +kernel)), ⟨by decide +kernel, by decide +kernel⟩, by decide +kernel, by decide +kernel⟩
def mi_X_serve : cn_M := (⟨"ChunkedNodes", "serve", "(LChunkedNodes$Message;)I"⟩, prog_1_method_21_code, 2, some .int)
theorem mo_X_serve : cn_mok mi_X_serve := ⟨(cn_inT 58 (by decide +kernel) (by decide +kernel)), (cn_inT 402 (by decide +kernel) (by decide +kernel)), ⟨by decide +kernel, by decide +kernel⟩, by decide +kernel, by decide +kernel⟩
def mi_Me_startReading : cn_M := (⟨"ChunkedNodes$Message", "startReading", "()V"⟩, prog_5_method_2_code, 1, none)
theorem mo_Me_startReading : cn_mok mi_Me_startReading := ⟨(cn_inT 63 (by decide +kernel) (by decide +kernel)), (cn_inT 406 (by decide +kernel) (by decide +kernel)), ⟨by decide +kernel, by decide +kernel⟩, by decide +kernel, by decide +kernel⟩
def mi_Me_left : cn_M := (⟨"ChunkedNodes$Message", "left", "()I"⟩, prog_5_method_3_code, 1, some .int)
theorem mo_Me_left : cn_mok mi_Me_left := ⟨(cn_inT 63 (by decide +kernel) (by decide +kernel)), (cn_inT 410 (by decide +kernel) (by decide +kernel)), ⟨by decide +kernel, by decide +kernel⟩, by decide +kernel, by decide +kernel⟩
def mi_Me_readByte : cn_M := (⟨"ChunkedNodes$Message", "readByte", "()I"⟩, prog_5_method_5_code, 1, some .int)
theorem mo_Me_readByte : cn_mok mi_Me_readByte := ⟨(cn_inT 63 (by decide +kernel) (by decide +kernel)), (cn_inT 414 (by decide +kernel) (by decide +kernel)), ⟨by decide +kernel, by decide +kernel⟩, by decide +kernel, by decide +kernel⟩
def mi_X_serveRead : cn_M := (⟨"ChunkedNodes", "serveRead", "(LChunkedNodes$Message;)I"⟩, prog_1_method_23_code, 4, some .int)
theorem mo_X_serveRead : cn_mok mi_X_serveRead := ⟨(cn_inT 58 (by decide +kernel) (by decide +kernel)), (cn_inT 418 (by decide +kernel) (by decide +kernel)), ⟨by decide +kernel, by decide +kernel⟩, by decide +kernel, by decide +kernel⟩
def mi_Me_readName : cn_M := (⟨"ChunkedNodes$Message", "readName", "()I"⟩, prog_5_method_7_code, 4, some .int)
theorem mo_Me_readName : cn_mok mi_Me_readName := ⟨(cn_inT 63 (by decide +kernel) (by decide +kernel)), (cn_inT 422 (by decide +kernel) (by decide +kernel)), ⟨by decide +kernel, by decide +kernel⟩, by decide +kernel, by decide +kernel⟩
def mi_Me_isReadWhole : cn_M := (⟨"ChunkedNodes$Message", "isReadWhole", "()Z"⟩, prog_5_method_4_code, 1, some .boolean)
theorem mo_Me_isReadWhole : cn_mok mi_Me_isReadWhole := ⟨(cn_inT 63 (by decide +kernel) (by decide +kernel)), (cn_inT 427 (by decide +kernel) (by decide +kernel)), ⟨by decide +kernel, by decide +kernel⟩, by decide +kernel, by decide +kernel⟩
def mi_X_checkVariable : cn_M := (⟨"ChunkedNodes", "checkVariable", "(I)I"⟩, prog_1_method_22_code, 2, some .int)
theorem mo_X_checkVariable : cn_mok mi_X_checkVariable := ⟨(cn_inT 58 (by decide +kernel) (by decide +kernel)), (cn_inT 432 (by decide +kernel) (by decide +kernel)), ⟨by decide +kernel, by decide +kernel⟩, by decide +kernel, by decide +kernel⟩
def mi_X_serveWrite : cn_M := (⟨"ChunkedNodes", "serveWrite", "(LChunkedNodes$Message;)I"⟩, prog_1_method_24_code, 5, some .int)
theorem mo_X_serveWrite : cn_mok mi_X_serveWrite := ⟨(cn_inT 58 (by decide +kernel) (by decide +kernel)), (cn_inT 436 (by decide +kernel) (by decide +kernel)), ⟨by decide +kernel, by decide +kernel⟩, by decide +kernel, by decide +kernel⟩
def mi_Me_readValue : cn_M := (⟨"ChunkedNodes$Message", "readValue", "(LChunkedNodes$Bytes;I)V"⟩, prog_5_method_8_code, 4, none)
theorem mo_Me_readValue : cn_mok mi_Me_readValue := ⟨(cn_inT 63 (by decide +kernel) (by decide +kernel)), (cn_inT 440 (by decide +kernel) (by decide +kernel)), ⟨by decide +kernel, by decide +kernel⟩, by decide +kernel, by decide +kernel⟩
def mi_Me_moveBytes : cn_M := (⟨"ChunkedNodes$Message", "moveBytes", "(LChunkedNodes$Bytes;I)V"⟩, prog_5_method_9_code, 4, none)
theorem mo_Me_moveBytes : cn_mok mi_Me_moveBytes := ⟨(cn_inT 63 (by decide +kernel) (by decide +kernel)), (cn_inT 445 (by decide +kernel) (by decide +kernel)), ⟨by decide +kernel, by decide +kernel⟩, by decide +kernel, by decide +kernel⟩
def mi_Me_readText : cn_M := (⟨"ChunkedNodes$Message", "readText", "(LChunkedNodes$Bytes;)V"⟩, prog_5_method_10_code, 3, none)
theorem mo_Me_readText : cn_mok mi_Me_readText := ⟨(cn_inT 63 (by decide +kernel) (by decide +kernel)), (cn_inT 449 (by decide +kernel) (by decide +kernel)), ⟨by decide +kernel, by decide +kernel⟩, by decide +kernel, by decide +kernel⟩
def mi_Me_readNumber : cn_M := (⟨"ChunkedNodes$Message", "readNumber", "()I"⟩, prog_5_method_6_code, 2, some .int)
theorem mo_Me_readNumber : cn_mok mi_Me_readNumber := ⟨(cn_inT 63 (by decide +kernel) (by decide +kernel)), (cn_inT 453 (by decide +kernel) (by decide +kernel)), ⟨by decide +kernel, by decide +kernel⟩, by decide +kernel, by decide +kernel⟩
def mi_Me_readList : cn_M := (⟨"ChunkedNodes$Message", "readList", "(LChunkedNodes$Bytes;I)V"⟩, prog_5_method_11_code, 5, none)
theorem mo_Me_readList : cn_mok mi_Me_readList := ⟨(cn_inT 63 (by decide +kernel) (by decide +kernel)), (cn_inT 458 (by decide +kernel) (by decide +kernel)), ⟨by decide +kernel, by decide +kernel⟩, by decide +kernel, by decide +kernel⟩
def mi_By_at : cn_M := (⟨"ChunkedNodes$Bytes", "at", "(I)I"⟩, prog_2_method_2_code, 2, some .int)
theorem mo_By_at : cn_mok mi_By_at := ⟨(cn_inT 61 (by decide +kernel) (by decide +kernel)), (cn_inT 463 (by decide +kernel) (by decide +kernel)), ⟨by decide +kernel, by decide +kernel⟩, by decide +kernel, by decide +kernel⟩
def mi_X_serveBrowse : cn_M := (⟨"ChunkedNodes", "serveBrowse", "(LChunkedNodes$Message;)I"⟩, prog_1_method_25_code, 4, some .int)
theorem mo_X_serveBrowse : cn_mok mi_X_serveBrowse := ⟨(cn_inT 58 (by decide +kernel) (by decide +kernel)), (cn_inT 467 (by decide +kernel) (by decide +kernel)), ⟨by decide +kernel, by decide +kernel⟩, by decide +kernel, by decide +kernel⟩
def mi_X_replyParent : cn_M := (⟨"ChunkedNodes", "replyParent", "(I)V"⟩, prog_1_method_26_code, 2, none)
theorem mo_X_replyParent : cn_mok mi_X_replyParent := ⟨(cn_inT 58 (by decide +kernel) (by decide +kernel)), (cn_inT 471 (by decide +kernel) (by decide +kernel)), ⟨by decide +kernel, by decide +kernel⟩, by decide +kernel, by decide +kernel⟩
def mi_X_replyName : cn_M := (⟨"ChunkedNodes", "replyName", "(I)V"⟩, prog_1_method_28_code, 2, none)
theorem mo_X_replyName : cn_mok mi_X_replyName := ⟨(cn_inT 58 (by decide +kernel) (by decide +kernel)), (cn_inT 475 (by decide +kernel) (by decide +kernel)), ⟨by decide +kernel, by decide +kernel⟩, by decide +kernel, by decide +kernel⟩
def mi_By_set : cn_M := (⟨"ChunkedNodes$Bytes", "set", "(II)V"⟩, prog_2_method_4_code, 3, none)
theorem mo_By_set : cn_mok mi_By_set := ⟨(cn_inT 61 (by decide +kernel) (by decide +kernel)), (cn_inT 479 (by decide +kernel) (by decide +kernel)), ⟨by decide +kernel, by decide +kernel⟩, by decide +kernel, by decide +kernel⟩
def mi_X_replyChildren : cn_M := (⟨"ChunkedNodes", "replyChildren", "(I)V"⟩, prog_1_method_27_code, 3, none)
theorem mo_X_replyChildren : cn_mok mi_X_replyChildren := ⟨(cn_inT 58 (by decide +kernel) (by decide +kernel)), (cn_inT 483 (by decide +kernel) (by decide +kernel)), ⟨by decide +kernel, by decide +kernel⟩, by decide +kernel, by decide +kernel⟩
def mi_X_serveWatch : cn_M := (⟨"ChunkedNodes", "serveWatch", "(LChunkedNodes$Message;)I"⟩, prog_1_method_29_code, 6, some .int)
theorem mo_X_serveWatch : cn_mok mi_X_serveWatch := ⟨(cn_inT 58 (by decide +kernel) (by decide +kernel)), (cn_inT 487 (by decide +kernel) (by decide +kernel)), ⟨by decide +kernel, by decide +kernel⟩, by decide +kernel, by decide +kernel⟩
def mi_It_watch : cn_M := (⟨"ChunkedNodes$Item", "watch", "(IIZ)V"⟩, prog_4_method_2_code, 4, none)
theorem mo_It_watch : cn_mok mi_It_watch := ⟨(cn_inT 65 (by decide +kernel) (by decide +kernel)), (cn_inT 495 (by decide +kernel) (by decide +kernel)), ⟨by decide +kernel, by decide +kernel⟩, by decide +kernel, by decide +kernel⟩
def mi_X_servePublish : cn_M := (⟨"ChunkedNodes", "servePublish", "(LChunkedNodes$Message;)I"⟩, prog_1_method_30_code, 5, some .int)
theorem mo_X_servePublish : cn_mok mi_X_servePublish := ⟨(cn_inT 58 (by decide +kernel) (by decide +kernel)), (cn_inT 499 (by decide +kernel) (by decide +kernel)), ⟨by decide +kernel, by decide +kernel⟩, by decide +kernel, by decide +kernel⟩
def mi_Sf_drop : cn_M := (⟨"ChunkedNodes$Shelf", "drop", "(I)V"⟩, prog_9_method_4_code, 3, none)
theorem mo_Sf_drop : cn_mok mi_Sf_drop := ⟨(cn_inT 59 (by decide +kernel) (by decide +kernel)), (cn_inT 504 (by decide +kernel) (by decide +kernel)), ⟨by decide +kernel, by decide +kernel⟩, by decide +kernel, by decide +kernel⟩
def mi_Sf_find : cn_M := (⟨"ChunkedNodes$Shelf", "find", "(I)I"⟩, prog_9_method_3_code, 3, some .int)
theorem mo_Sf_find : cn_mok mi_Sf_find := ⟨(cn_inT 59 (by decide +kernel) (by decide +kernel)), (cn_inT 508 (by decide +kernel) (by decide +kernel)), ⟨by decide +kernel, by decide +kernel⟩, by decide +kernel, by decide +kernel⟩
def mi_Sf_removeAt : cn_M := (⟨"ChunkedNodes$Shelf", "removeAt", "(I)V"⟩, prog_9_method_5_code, 4, none)
theorem mo_Sf_removeAt : cn_mok mi_Sf_removeAt := ⟨(cn_inT 59 (by decide +kernel) (by decide +kernel)), (cn_inT 512 (by decide +kernel) (by decide +kernel)), ⟨by decide +kernel, by decide +kernel⟩, by decide +kernel, by decide +kernel⟩
def mi_X_countNotices : cn_M := (⟨"ChunkedNodes", "countNotices", "()I"⟩, prog_1_method_31_code, 3, some .int)
theorem mo_X_countNotices : cn_mok mi_X_countNotices := ⟨(cn_inT 58 (by decide +kernel) (by decide +kernel)), (cn_inT 516 (by decide +kernel) (by decide +kernel)), ⟨by decide +kernel, by decide +kernel⟩, by decide +kernel, by decide +kernel⟩
def mi_Sf_keepAnother : cn_M := (⟨"ChunkedNodes$Shelf", "keepAnother", "()LChunkedNodes$Parcel;"⟩, prog_9_method_6_code, 2, some (.object "ChunkedNodes$Parcel"))
theorem mo_Sf_keepAnother : cn_mok mi_Sf_keepAnother := ⟨(cn_inT 59 (by decide +kernel) (by decide +kernel)), (cn_inT 520 (by decide +kernel) (by decide +kernel)), ⟨by decide +kernel, by decide +kernel⟩, by decide +kernel, by decide +kernel⟩
def mi_X_moveNotices : cn_M := (⟨"ChunkedNodes", "moveNotices", "(LChunkedNodes$Bytes;I)V"⟩, prog_1_method_32_code, 6, none)
theorem mo_X_moveNotices : cn_mok mi_X_moveNotices := ⟨(cn_inT 58 (by decide +kernel) (by decide +kernel)), (cn_inT 526 (by decide +kernel) (by decide +kernel)), ⟨by decide +kernel, by decide +kernel⟩, by decide +kernel, by decide +kernel⟩
def mi_X_serveAgain : cn_M := (⟨"ChunkedNodes", "serveAgain", "(LChunkedNodes$Message;)I"⟩, prog_1_method_33_code, 4, some .int)
theorem mo_X_serveAgain : cn_mok mi_X_serveAgain := ⟨(cn_inT 58 (by decide +kernel) (by decide +kernel)), (cn_inT 531 (by decide +kernel) (by decide +kernel)), ⟨by decide +kernel, by decide +kernel⟩, by decide +kernel, by decide +kernel⟩
def mi_X_part : cn_M := (⟨"ChunkedNodes", "part", "()I"⟩, prog_1_method_8_code, 1, some .int)
theorem mo_X_part : cn_mok mi_X_part := ⟨(cn_inT 58 (by decide +kernel) (by decide +kernel)), (cn_inT 536 (by decide +kernel) (by decide +kernel)), ⟨by decide +kernel, by decide +kernel⟩, by decide +kernel, by decide +kernel⟩
def mi_X_answerLength : cn_M := (⟨"ChunkedNodes", "answerLength", "()I"⟩, prog_1_method_9_code, 1, some .int)
theorem mo_X_answerLength : cn_mok mi_X_answerLength := ⟨(cn_inT 58 (by decide +kernel) (by decide +kernel)), (cn_inT 540 (by decide +kernel) (by decide +kernel)), ⟨by decide +kernel, by decide +kernel⟩, by decide +kernel, by decide +kernel⟩
def mi_X_answer : cn_M := (⟨"ChunkedNodes", "answer", "(I)I"⟩, prog_1_method_10_code, 2, some .int)
theorem mo_X_answer : cn_mok mi_X_answer := ⟨(cn_inT 58 (by decide +kernel) (by decide +kernel)), (cn_inT 544 (by decide +kernel) (by decide +kernel)), ⟨by decide +kernel, by decide +kernel⟩, by decide +kernel, by decide +kernel⟩
def mi_X_request : cn_M := (⟨"ChunkedNodes", "request", "()I"⟩, prog_1_method_11_code, 1, some .int)
theorem mo_X_request : cn_mok mi_X_request := ⟨(cn_inT 58 (by decide +kernel) (by decide +kernel)), (cn_inT 548 (by decide +kernel) (by decide +kernel)), ⟨by decide +kernel, by decide +kernel⟩, by decide +kernel, by decide +kernel⟩
def mi_X_queue : cn_M := (⟨"ChunkedNodes", "queue", "(I)I"⟩, prog_1_method_12_code, 2, some .int)
theorem mo_X_queue : cn_mok mi_X_queue := ⟨(cn_inT 58 (by decide +kernel) (by decide +kernel)), (cn_inT 552 (by decide +kernel) (by decide +kernel)), ⟨by decide +kernel, by decide +kernel⟩, by decide +kernel, by decide +kernel⟩
def mi_X_parcels : cn_M := (⟨"ChunkedNodes", "parcels", "()I"⟩, prog_1_method_13_code, 1, some .int)
theorem mo_X_parcels : cn_mok mi_X_parcels := ⟨(cn_inT 58 (by decide +kernel) (by decide +kernel)), (cn_inT 556 (by decide +kernel) (by decide +kernel)), ⟨by decide +kernel, by decide +kernel⟩, by decide +kernel, by decide +kernel⟩
def mi_X_parcel : cn_M := (⟨"ChunkedNodes", "parcel", "(I)I"⟩, prog_1_method_14_code, 2, some .int)
theorem mo_X_parcel : cn_mok mi_X_parcel := ⟨(cn_inT 58 (by decide +kernel) (by decide +kernel)), (cn_inT 560 (by decide +kernel) (by decide +kernel)), ⟨by decide +kernel, by decide +kernel⟩, by decide +kernel, by decide +kernel⟩
def mi_X_size : cn_M := (⟨"ChunkedNodes", "size", "(I)I"⟩, prog_1_method_15_code, 2, some .int)
theorem mo_X_size : cn_mok mi_X_size := ⟨(cn_inT 58 (by decide +kernel) (by decide +kernel)), (cn_inT 564 (by decide +kernel) (by decide +kernel)), ⟨by decide +kernel, by decide +kernel⟩, by decide +kernel, by decide +kernel⟩
def mi_M_init : cn_M := (⟨"ChunkedNodesModel", "<init>", "()V"⟩, prog_11_method_1_code, 1, none)
theorem mo_M_init : cn_mok mi_M_init := ⟨(cn_inT 67 (by decide +kernel) (by decide +kernel)), (cn_inT 569 (by decide +kernel) (by decide +kernel)), ⟨by decide +kernel, by decide +kernel⟩, by decide +kernel, by decide +kernel⟩
def mi_M_open : cn_M := (⟨"ChunkedNodesModel", "open", "()V"⟩, prog_11_method_2_code, 1, none)
theorem mo_M_open : cn_mok mi_M_open := ⟨(cn_inT 67 (by decide +kernel) (by decide +kernel)), (cn_inT 687 (by decide +kernel) (by decide +kernel)), ⟨by decide +kernel, by decide +kernel⟩, by decide +kernel, by decide +kernel⟩
def mi_M_isOpen : cn_M := (⟨"ChunkedNodesModel", "isOpen", "()Z"⟩, prog_11_method_3_code, 1, some .boolean)
theorem mo_M_isOpen : cn_mok mi_M_isOpen := ⟨(cn_inT 67 (by decide +kernel) (by decide +kernel)), (cn_inT 691 (by decide +kernel) (by decide +kernel)), ⟨by decide +kernel, by decide +kernel⟩, by decide +kernel, by decide +kernel⟩
def mi_M_folder : cn_M := (⟨"ChunkedNodesModel", "folder", "(I)I"⟩, prog_11_method_7_code, 2, some .int)
theorem mo_M_folder : cn_mok mi_M_folder := ⟨(cn_inT 67 (by decide +kernel) (by decide +kernel)), (cn_inT 695 (by decide +kernel) (by decide +kernel)), ⟨by decide +kernel, by decide +kernel⟩, by decide +kernel, by decide +kernel⟩
def mi_M_make : cn_M := (⟨"ChunkedNodesModel", "make", "(IZI)I"⟩, prog_11_method_6_code, 4, some .int)
theorem mo_M_make : cn_mok mi_M_make := ⟨(cn_inT 67 (by decide +kernel) (by decide +kernel)), (cn_inT 699 (by decide +kernel) (by decide +kernel)), ⟨by decide +kernel, by decide +kernel⟩, by decide +kernel, by decide +kernel⟩
def mi_M_isNode : cn_M := (⟨"ChunkedNodesModel", "isNode", "(I)Z"⟩, prog_11_method_4_code, 2, some .boolean)
theorem mo_M_isNode : cn_mok mi_M_isNode := ⟨(cn_inT 67 (by decide +kernel) (by decide +kernel)), (cn_inT 703 (by decide +kernel) (by decide +kernel)), ⟨by decide +kernel, by decide +kernel⟩, by decide +kernel, by decide +kernel⟩
def mi_M_variable : cn_M := (⟨"ChunkedNodesModel", "variable", "(II)I"⟩, prog_11_method_9_code, 5, some .int)
theorem mo_M_variable : cn_mok mi_M_variable := ⟨(cn_inT 67 (by decide +kernel) (by decide +kernel)), (cn_inT 707 (by decide +kernel) (by decide +kernel)), ⟨by decide +kernel, by decide +kernel⟩, by decide +kernel, by decide +kernel⟩
def mi_M_startNumber : cn_M := (⟨"ChunkedNodesModel", "startNumber", "(IJI)V"⟩, prog_11_method_8_code, 6, none)
theorem mo_M_startNumber : cn_mok mi_M_startNumber := ⟨(cn_inT 67 (by decide +kernel) (by decide +kernel)), (cn_inT 712 (by decide +kernel) (by decide +kernel)), ⟨by decide +kernel, by decide +kernel⟩, by decide +kernel, by decide +kernel⟩
def mi_M_poke : cn_M := (⟨"ChunkedNodesModel", "poke", "(IJ)Z"⟩, prog_11_method_15_code, 9, some .boolean)
theorem mo_M_poke : cn_mok mi_M_poke := ⟨(cn_inT 67 (by decide +kernel) (by decide +kernel)), (cn_inT 717 (by decide +kernel) (by decide +kernel)), ⟨by decide +kernel, by decide +kernel⟩, by decide +kernel, by decide +kernel⟩
def mi_M_isVariable : cn_M := (⟨"ChunkedNodesModel", "isVariable", "(I)Z"⟩, prog_11_method_5_code, 2, some .boolean)
theorem mo_M_isVariable : cn_mok mi_M_isVariable := ⟨(cn_inT 67 (by decide +kernel) (by decide +kernel)), (cn_inT 721 (by decide +kernel) (by decide +kernel)), ⟨by decide +kernel, by decide +kernel⟩, by decide +kernel, by decide +kernel⟩
def mi_M_become : cn_M := (⟨"ChunkedNodesModel", "become", "(I)Z"⟩, prog_11_method_14_code, 4, some .boolean)
theorem mo_M_become : cn_mok mi_M_become := ⟨(cn_inT 67 (by decide +kernel) (by decide +kernel)), (cn_inT 725 (by decide +kernel) (by decide +kernel)), ⟨by decide +kernel, by decide +kernel⟩, by decide +kernel, by decide +kernel⟩
def mi_M_tell : cn_M := (⟨"ChunkedNodesModel", "tell", "(II)V"⟩, prog_11_method_13_code, 5, none)
theorem mo_M_tell : cn_mok mi_M_tell := ⟨(cn_inT 67 (by decide +kernel) (by decide +kernel)), (cn_inT 729 (by decide +kernel) (by decide +kernel)), ⟨by decide +kernel, by decide +kernel⟩, by decide +kernel, by decide +kernel⟩
def mi_M_dropFirst : cn_M := (⟨"ChunkedNodesModel", "dropFirst", "(I)V"⟩, prog_11_method_11_code, 3, none)
theorem mo_M_dropFirst : cn_mok mi_M_dropFirst := ⟨(cn_inT 67 (by decide +kernel) (by decide +kernel)), (cn_inT 733 (by decide +kernel) (by decide +kernel)), ⟨by decide +kernel, by decide +kernel⟩, by decide +kernel, by decide +kernel⟩
def mi_M_copyNotice : cn_M := (⟨"ChunkedNodesModel", "copyNotice", "(II)V"⟩, prog_11_method_10_code, 4, none)
theorem mo_M_copyNotice : cn_mok mi_M_copyNotice := ⟨(cn_inT 67 (by decide +kernel) (by decide +kernel)), (cn_inT 737 (by decide +kernel) (by decide +kernel)), ⟨by decide +kernel, by decide +kernel⟩, by decide +kernel, by decide +kernel⟩
def mi_M_append : cn_M := (⟨"ChunkedNodesModel", "append", "(III)V"⟩, prog_11_method_12_code, 6, none)
theorem mo_M_append : cn_mok mi_M_append := ⟨(cn_inT 67 (by decide +kernel) (by decide +kernel)), (cn_inT 741 (by decide +kernel) (by decide +kernel)), ⟨by decide +kernel, by decide +kernel⟩, by decide +kernel, by decide +kernel⟩
def mi_M_chunk : cn_M := (⟨"ChunkedNodesModel", "chunk", "(IIIJI)I"⟩, prog_11_method_17_code, 10, some .int)
theorem mo_M_chunk : cn_mok mi_M_chunk := ⟨(cn_inT 67 (by decide +kernel) (by decide +kernel)), (cn_inT 745 (by decide +kernel) (by decide +kernel)), ⟨by decide +kernel, by decide +kernel⟩, by decide +kernel, by decide +kernel⟩
def mi_M_follows : cn_M := (⟨"ChunkedNodesModel", "follows", "(I)Z"⟩, prog_11_method_16_code, 2, some .boolean)
theorem mo_M_follows : cn_mok mi_M_follows := ⟨(cn_inT 67 (by decide +kernel) (by decide +kernel)), (cn_inT 749 (by decide +kernel) (by decide +kernel)), ⟨by decide +kernel, by decide +kernel⟩, by decide +kernel, by decide +kernel⟩
def mi_M_reply : cn_M := (⟨"ChunkedNodesModel", "reply", "()V"⟩, prog_11_method_29_code, 2, none)
theorem mo_M_reply : cn_mok mi_M_reply := ⟨(cn_inT 67 (by decide +kernel) (by decide +kernel)), (cn_inT 753 (by decide +kernel) (by decide +kernel)), ⟨by decide +kernel, by decide +kernel⟩, by decide +kernel, by decide +kernel⟩
def mi_M_code : cn_M := (⟨"ChunkedNodesModel", "code", "(I)V"⟩, prog_11_method_27_code, 2, none)
theorem mo_M_code : cn_mok mi_M_code := ⟨(cn_inT 67 (by decide +kernel) (by decide +kernel)), (cn_inT 757 (by decide +kernel) (by decide +kernel)), ⟨by decide +kernel, by decide +kernel⟩, by decide +kernel, by decide +kernel⟩
def mi_M_say : cn_M := (⟨"ChunkedNodesModel", "say", "(I)V"⟩, prog_11_method_25_code, 2, none)
theorem mo_M_say : cn_mok mi_M_say := ⟨(cn_inT 67 (by decide +kernel) (by decide +kernel)), (cn_inT 761 (by decide +kernel) (by decide +kernel)), ⟨by decide +kernel, by decide +kernel⟩, by decide +kernel, by decide +kernel⟩
def mi_M_next : cn_M := (⟨"ChunkedNodesModel", "next", "()I"⟩, prog_11_method_18_code, 1, some .int)
theorem mo_M_next : cn_mok mi_M_next := ⟨(cn_inT 67 (by decide +kernel) (by decide +kernel)), (cn_inT 765 (by decide +kernel) (by decide +kernel)), ⟨by decide +kernel, by decide +kernel⟩, by decide +kernel, by decide +kernel⟩
def mi_M_read : cn_M := (⟨"ChunkedNodesModel", "read", "()V"⟩, prog_11_method_30_code, 2, none)
theorem mo_M_read : cn_mok mi_M_read := ⟨(cn_inT 67 (by decide +kernel) (by decide +kernel)), (cn_inT 769 (by decide +kernel) (by decide +kernel)), ⟨by decide +kernel, by decide +kernel⟩, by decide +kernel, by decide +kernel⟩
def mi_M_readName : cn_M := (⟨"ChunkedNodesModel", "readName", "()V"⟩, prog_11_method_20_code, 4, none)
theorem mo_M_readName : cn_mok mi_M_readName := ⟨(cn_inT 67 (by decide +kernel) (by decide +kernel)), (cn_inT 773 (by decide +kernel) (by decide +kernel)), ⟨by decide +kernel, by decide +kernel⟩, by decide +kernel, by decide +kernel⟩
def mi_M_number : cn_M := (⟨"ChunkedNodesModel", "number", "(I)I"⟩, prog_11_method_19_code, 4, some .int)
theorem mo_M_number : cn_mok mi_M_number := ⟨(cn_inT 67 (by decide +kernel) (by decide +kernel)), (cn_inT 777 (by decide +kernel) (by decide +kernel)), ⟨by decide +kernel, by decide +kernel⟩, by decide +kernel, by decide +kernel⟩
def mi_M_whole : cn_M := (⟨"ChunkedNodesModel", "whole", "()Z"⟩, prog_11_method_28_code, 1, some .boolean)
theorem mo_M_whole : cn_mok mi_M_whole := ⟨(cn_inT 67 (by decide +kernel) (by decide +kernel)), (cn_inT 781 (by decide +kernel) (by decide +kernel)), ⟨by decide +kernel, by decide +kernel⟩, by decide +kernel, by decide +kernel⟩
def mi_M_write : cn_M := (⟨"ChunkedNodesModel", "write", "()V"⟩, prog_11_method_31_code, 2, none)
theorem mo_M_write : cn_mok mi_M_write := ⟨(cn_inT 67 (by decide +kernel) (by decide +kernel)), (cn_inT 785 (by decide +kernel) (by decide +kernel)), ⟨by decide +kernel, by decide +kernel⟩, by decide +kernel, by decide +kernel⟩
def mi_M_readValue : cn_M := (⟨"ChunkedNodesModel", "readValue", "()V"⟩, prog_11_method_24_code, 4, none)
theorem mo_M_readValue : cn_mok mi_M_readValue := ⟨(cn_inT 67 (by decide +kernel) (by decide +kernel)), (cn_inT 789 (by decide +kernel) (by decide +kernel)), ⟨by decide +kernel, by decide +kernel⟩, by decide +kernel, by decide +kernel⟩
def mi_M_put : cn_M := (⟨"ChunkedNodesModel", "put", "(I)V"⟩, prog_11_method_21_code, 2, none)
theorem mo_M_put : cn_mok mi_M_put := ⟨(cn_inT 67 (by decide +kernel) (by decide +kernel)), (cn_inT 793 (by decide +kernel) (by decide +kernel)), ⟨by decide +kernel, by decide +kernel⟩, by decide +kernel, by decide +kernel⟩
def mi_M_putNumber : cn_M := (⟨"ChunkedNodesModel", "putNumber", "(I)I"⟩, prog_11_method_22_code, 5, some .int)
theorem mo_M_putNumber : cn_mok mi_M_putNumber := ⟨(cn_inT 67 (by decide +kernel) (by decide +kernel)), (cn_inT 797 (by decide +kernel) (by decide +kernel)), ⟨by decide +kernel, by decide +kernel⟩, by decide +kernel, by decide +kernel⟩
def mi_M_readPlain : cn_M := (⟨"ChunkedNodesModel", "readPlain", "(I)V"⟩, prog_11_method_23_code, 4, none)
theorem mo_M_readPlain : cn_mok mi_M_readPlain := ⟨(cn_inT 67 (by decide +kernel) (by decide +kernel)), (cn_inT 801 (by decide +kernel) (by decide +kernel)), ⟨by decide +kernel, by decide +kernel⟩, by decide +kernel, by decide +kernel⟩
def mi_M_browse : cn_M := (⟨"ChunkedNodesModel", "browse", "()V"⟩, prog_11_method_32_code, 3, none)
theorem mo_M_browse : cn_mok mi_M_browse := ⟨(cn_inT 67 (by decide +kernel) (by decide +kernel)), (cn_inT 805 (by decide +kernel) (by decide +kernel)), ⟨by decide +kernel, by decide +kernel⟩, by decide +kernel, by decide +kernel⟩
def mi_M_watch : cn_M := (⟨"ChunkedNodesModel", "watch", "()V"⟩, prog_11_method_33_code, 3, none)
theorem mo_M_watch : cn_mok mi_M_watch := ⟨(cn_inT 67 (by decide +kernel) (by decide +kernel)), (cn_inT 809 (by decide +kernel) (by decide +kernel)), ⟨by decide +kernel, by decide +kernel⟩, by decide +kernel, by decide +kernel⟩
def mi_M_publish : cn_M := (⟨"ChunkedNodesModel", "publish", "()V"⟩, prog_11_method_38_code, 6, none)
theorem mo_M_publish : cn_mok mi_M_publish := ⟨(cn_inT 67 (by decide +kernel) (by decide +kernel)), (cn_inT 813 (by decide +kernel) (by decide +kernel)), ⟨by decide +kernel, by decide +kernel⟩, by decide +kernel, by decide +kernel⟩
def mi_M_find : cn_M := (⟨"ChunkedNodesModel", "find", "(I)I"⟩, prog_11_method_34_code, 4, some .int)
theorem mo_M_find : cn_mok mi_M_find := ⟨(cn_inT 67 (by decide +kernel) (by decide +kernel)), (cn_inT 817 (by decide +kernel) (by decide +kernel)), ⟨by decide +kernel, by decide +kernel⟩, by decide +kernel, by decide +kernel⟩
def mi_M_dropParcel : cn_M := (⟨"ChunkedNodesModel", "dropParcel", "(I)V"⟩, prog_11_method_35_code, 4, none)
theorem mo_M_dropParcel : cn_mok mi_M_dropParcel := ⟨(cn_inT 67 (by decide +kernel) (by decide +kernel)), (cn_inT 821 (by decide +kernel) (by decide +kernel)), ⟨by decide +kernel, by decide +kernel⟩, by decide +kernel, by decide +kernel⟩
def mi_M_busy : cn_M := (⟨"ChunkedNodesModel", "busy", "()I"⟩, prog_11_method_36_code, 3, some .int)
theorem mo_M_busy : cn_mok mi_M_busy := ⟨(cn_inT 67 (by decide +kernel) (by decide +kernel)), (cn_inT 825 (by decide +kernel) (by decide +kernel)), ⟨by decide +kernel, by decide +kernel⟩, by decide +kernel, by decide +kernel⟩
def mi_M_sayNumber : cn_M := (⟨"ChunkedNodesModel", "sayNumber", "(I)V"⟩, prog_11_method_26_code, 3, none)
theorem mo_M_sayNumber : cn_mok mi_M_sayNumber := ⟨(cn_inT 67 (by decide +kernel) (by decide +kernel)), (cn_inT 829 (by decide +kernel) (by decide +kernel)), ⟨by decide +kernel, by decide +kernel⟩, by decide +kernel, by decide +kernel⟩
def mi_M_sayNotice : cn_M := (⟨"ChunkedNodesModel", "sayNotice", "(I)V"⟩, prog_11_method_37_code, 3, none)
theorem mo_M_sayNotice : cn_mok mi_M_sayNotice := ⟨(cn_inT 67 (by decide +kernel) (by decide +kernel)), (cn_inT 833 (by decide +kernel) (by decide +kernel)), ⟨by decide +kernel, by decide +kernel⟩, by decide +kernel, by decide +kernel⟩
def mi_M_keep : cn_M := (⟨"ChunkedNodesModel", "keep", "()V"⟩, prog_11_method_39_code, 2, none)
theorem mo_M_keep : cn_mok mi_M_keep := ⟨(cn_inT 67 (by decide +kernel) (by decide +kernel)), (cn_inT 837 (by decide +kernel) (by decide +kernel)), ⟨by decide +kernel, by decide +kernel⟩, by decide +kernel, by decide +kernel⟩
def mi_M_again : cn_M := (⟨"ChunkedNodesModel", "again", "()V"⟩, prog_11_method_40_code, 4, none)
theorem mo_M_again : cn_mok mi_M_again := ⟨(cn_inT 67 (by decide +kernel) (by decide +kernel)), (cn_inT 841 (by decide +kernel) (by decide +kernel)), ⟨by decide +kernel, by decide +kernel⟩, by decide +kernel, by decide +kernel⟩
def mi_M_part : cn_M := (⟨"ChunkedNodesModel", "part", "()I"⟩, prog_11_method_41_code, 1, some .int)
theorem mo_M_part : cn_mok mi_M_part := ⟨(cn_inT 67 (by decide +kernel) (by decide +kernel)), (cn_inT 845 (by decide +kernel) (by decide +kernel)), ⟨by decide +kernel, by decide +kernel⟩, by decide +kernel, by decide +kernel⟩
def mi_M_answerLength : cn_M := (⟨"ChunkedNodesModel", "answerLength", "()I"⟩, prog_11_method_42_code, 1, some .int)
theorem mo_M_answerLength : cn_mok mi_M_answerLength := ⟨(cn_inT 67 (by decide +kernel) (by decide +kernel)), (cn_inT 849 (by decide +kernel) (by decide +kernel)), ⟨by decide +kernel, by decide +kernel⟩, by decide +kernel, by decide +kernel⟩
def mi_M_answer : cn_M := (⟨"ChunkedNodesModel", "answer", "(I)I"⟩, prog_11_method_43_code, 2, some .int)
theorem mo_M_answer : cn_mok mi_M_answer := ⟨(cn_inT 67 (by decide +kernel) (by decide +kernel)), (cn_inT 853 (by decide +kernel) (by decide +kernel)), ⟨by decide +kernel, by decide +kernel⟩, by decide +kernel, by decide +kernel⟩
def mi_M_request : cn_M := (⟨"ChunkedNodesModel", "request", "()I"⟩, prog_11_method_44_code, 1, some .int)
theorem mo_M_request : cn_mok mi_M_request := ⟨(cn_inT 67 (by decide +kernel) (by decide +kernel)), (cn_inT 857 (by decide +kernel) (by decide +kernel)), ⟨by decide +kernel, by decide +kernel⟩, by decide +kernel, by decide +kernel⟩
def mi_M_queue : cn_M := (⟨"ChunkedNodesModel", "queue", "(I)I"⟩, prog_11_method_45_code, 2, some .int)
theorem mo_M_queue : cn_mok mi_M_queue := ⟨(cn_inT 67 (by decide +kernel) (by decide +kernel)), (cn_inT 861 (by decide +kernel) (by decide +kernel)), ⟨by decide +kernel, by decide +kernel⟩, by decide +kernel, by decide +kernel⟩
def mi_M_parcels : cn_M := (⟨"ChunkedNodesModel", "parcels", "()I"⟩, prog_11_method_46_code, 1, some .int)
theorem mo_M_parcels : cn_mok mi_M_parcels := ⟨(cn_inT 67 (by decide +kernel) (by decide +kernel)), (cn_inT 865 (by decide +kernel) (by decide +kernel)), ⟨by decide +kernel, by decide +kernel⟩, by decide +kernel, by decide +kernel⟩
def mi_M_parcel : cn_M := (⟨"ChunkedNodesModel", "parcel", "(I)I"⟩, prog_11_method_47_code, 2, some .int)
theorem mo_M_parcel : cn_mok mi_M_parcel := ⟨(cn_inT 67 (by decide +kernel) (by decide +kernel)), (cn_inT 869 (by decide +kernel) (by decide +kernel)), ⟨by decide +kernel, by decide +kernel⟩, by decide +kernel, by decide +kernel⟩
def mi_M_size : cn_M := (⟨"ChunkedNodesModel", "size", "(I)I"⟩, prog_11_method_48_code, 2, some .int)
theorem mo_M_size : cn_mok mi_M_size := ⟨(cn_inT 67 (by decide +kernel) (by decide +kernel)), (cn_inT 873 (by decide +kernel) (by decide +kernel)), ⟨by decide +kernel, by decide +kernel⟩, by decide +kernel, by decide +kernel⟩
def mi_L_law : cn_M := (⟨"ChunkedNodesLaw", "law", "([I)Z"⟩, code, 4, some .boolean)
theorem fl_X_11 : cn_fl "ChunkedNodes" 11 8 0 := ⟨_, _, _, cn_ok_X, by decide +kernel, Or.inl (cn_inT 265 (by decide +kernel) (by decide +kernel))⟩
theorem fl_X_17 : cn_fl "ChunkedNodes" 17 8 2 := ⟨_, _, _, cn_ok_X, by decide +kernel, Or.inl (cn_inT 267 (by decide +kernel) (by decide +kernel))⟩
theorem fl_X_24 : cn_fl "ChunkedNodes" 24 8 4 := ⟨_, _, _, cn_ok_X, by decide +kernel, Or.inl (cn_inT 269 (by decide +kernel) (by decide +kernel))⟩
theorem fl_X_31 : cn_fl "ChunkedNodes" 31 8 5 := ⟨_, _, _, cn_ok_X, by decide +kernel, Or.inl (cn_inT 270 (by decide +kernel) (by decide +kernel))⟩
theorem fl_X_40 : cn_fl "ChunkedNodes" 40 8 6 := ⟨_, _, _, cn_ok_X, by decide +kernel, Or.inl (cn_inT 271 (by decide +kernel) (by decide +kernel))⟩
theorem fl_X_44 : cn_fl "ChunkedNodes" 44 8 8 := ⟨_, _, _, cn_ok_X, by decide +kernel, Or.inl (cn_inT 273 (by decide +kernel) (by decide +kernel))⟩
theorem fl_X_47 : cn_fl "ChunkedNodes" 47 8 9 := ⟨_, _, _, cn_ok_X, by decide +kernel, Or.inl (cn_inT 274 (by decide +kernel) (by decide +kernel))⟩
theorem fl_X_57 : cn_fl "ChunkedNodes" 57 8 1 := ⟨_, _, _, cn_ok_X, by decide +kernel, Or.inl (cn_inT 266 (by decide +kernel) (by decide +kernel))⟩
theorem fl_X_61 : cn_fl "ChunkedNodes" 61 8 7 := ⟨_, _, _, cn_ok_X, by decide +kernel, Or.inl (cn_inT 272 (by decide +kernel) (by decide +kernel))⟩
theorem fl_X_67 : cn_fl "ChunkedNodes" 67 8 3 := ⟨_, _, _, cn_ok_X, by decide +kernel, Or.inl (cn_inT 268 (by decide +kernel) (by decide +kernel))⟩
theorem fl_X_74 : cn_fl "ChunkedNodes" 74 1 1 := ⟨_, _, _, cn_ok_Ch, by decide +kernel, Or.inr ⟨"ChunkedNodes", (cn_inN 164 (by decide +kernel) (by decide +kernel))⟩⟩
theorem fl_X_89 : cn_fl "ChunkedNodes" 89 4 1 := ⟨_, _, _, cn_ok_No, by decide +kernel, Or.inr ⟨"ChunkedNodes", (cn_inN 198 (by decide +kernel) (by decide +kernel))⟩⟩
theorem fl_X_113 : cn_fl "ChunkedNodes" 113 1 0 := ⟨_, _, _, cn_ok_Ch, by decide +kernel, Or.inr ⟨"ChunkedNodes", (cn_inN 162 (by decide +kernel) (by decide +kernel))⟩⟩
theorem fl_X_124 : cn_fl "ChunkedNodes" 124 1 4 := ⟨_, _, _, cn_ok_Ch, by decide +kernel, Or.inr ⟨"ChunkedNodes", (cn_inN 168 (by decide +kernel) (by decide +kernel))⟩⟩
theorem fl_X_127 : cn_fl "ChunkedNodes" 127 3 0 := ⟨_, _, _, cn_ok_Me, by decide +kernel, Or.inr ⟨"ChunkedNodes", (cn_inN 151 (by decide +kernel) (by decide +kernel))⟩⟩
theorem fl_X_132 : cn_fl "ChunkedNodes" 132 0 1 := ⟨_, _, _, cn_ok_By, by decide +kernel, Or.inr ⟨"ChunkedNodes", (cn_inN 106 (by decide +kernel) (by decide +kernel))⟩⟩
theorem fl_X_139 : cn_fl "ChunkedNodes" 139 2 4 := ⟨_, _, _, cn_ok_It, by decide +kernel, Or.inr ⟨"ChunkedNodes", (cn_inN 239 (by decide +kernel) (by decide +kernel))⟩⟩
theorem fl_X_142 : cn_fl "ChunkedNodes" 142 7 1 := ⟨_, _, _, cn_ok_Sf, by decide +kernel, Or.inr ⟨"ChunkedNodes", (cn_inN 126 (by decide +kernel) (by decide +kernel))⟩⟩
theorem fl_X_145 : cn_fl "ChunkedNodes" 145 7 0 := ⟨_, _, _, cn_ok_Sf, by decide +kernel, Or.inr ⟨"ChunkedNodes", (cn_inN 124 (by decide +kernel) (by decide +kernel))⟩⟩
theorem fl_X_149 : cn_fl "ChunkedNodes" 149 6 0 := ⟨_, _, _, cn_ok_Pa, by decide +kernel, Or.inr ⟨"ChunkedNodes", (cn_inN 114 (by decide +kernel) (by decide +kernel))⟩⟩
theorem fl_X_154 : cn_fl "ChunkedNodes" 154 4 2 := ⟨_, _, _, cn_ok_No, by decide +kernel, Or.inr ⟨"ChunkedNodes", (cn_inN 200 (by decide +kernel) (by decide +kernel))⟩⟩
theorem fl_X_168 : cn_fl "ChunkedNodes" 168 2 1 := ⟨_, _, _, cn_ok_It, by decide +kernel, Or.inr ⟨"ChunkedNodes", (cn_inN 235 (by decide +kernel) (by decide +kernel))⟩⟩
theorem fl_X_222 : cn_fl "ChunkedNodes" 222 4 0 := ⟨_, _, _, cn_ok_No, by decide +kernel, Or.inr ⟨"ChunkedNodes", (cn_inN 196 (by decide +kernel) (by decide +kernel))⟩⟩
theorem fl_X_253 : cn_fl "ChunkedNodes" 253 6 1 := ⟨_, _, _, cn_ok_Pa, by decide +kernel, Or.inr ⟨"ChunkedNodes", (cn_inN 117 (by decide +kernel) (by decide +kernel))⟩⟩
theorem fl_X_261 : cn_fl "ChunkedNodes" 261 5 0 := ⟨_, _, _, cn_ok_Nt, by decide +kernel, Or.inr ⟨"ChunkedNodes", (cn_inN 225 (by decide +kernel) (by decide +kernel))⟩⟩
theorem fl_X_264 : cn_fl "ChunkedNodes" 264 5 1 := ⟨_, _, _, cn_ok_Nt, by decide +kernel, Or.inr ⟨"ChunkedNodes", (cn_inN 227 (by decide +kernel) (by decide +kernel))⟩⟩
theorem fl_By_7 : cn_fl "ChunkedNodes$Bytes" 7 0 0 := ⟨_, _, _, cn_ok_By, by decide +kernel, Or.inl (cn_inT 101 (by decide +kernel) (by decide +kernel))⟩
theorem fl_By_13 : cn_fl "ChunkedNodes$Bytes" 13 0 1 := ⟨_, _, _, cn_ok_By, by decide +kernel, Or.inl (cn_inT 103 (by decide +kernel) (by decide +kernel))⟩
theorem fl_Ch_12 : cn_fl "ChunkedNodes$Channel" 12 1 0 := ⟨_, _, _, cn_ok_Ch, by decide +kernel, Or.inl (cn_inT 161 (by decide +kernel) (by decide +kernel))⟩
theorem fl_Ch_18 : cn_fl "ChunkedNodes$Channel" 18 1 1 := ⟨_, _, _, cn_ok_Ch, by decide +kernel, Or.inl (cn_inT 163 (by decide +kernel) (by decide +kernel))⟩
theorem fl_Ch_22 : cn_fl "ChunkedNodes$Channel" 22 1 2 := ⟨_, _, _, cn_ok_Ch, by decide +kernel, Or.inl (cn_inT 165 (by decide +kernel) (by decide +kernel))⟩
theorem fl_Ch_25 : cn_fl "ChunkedNodes$Channel" 25 1 4 := ⟨_, _, _, cn_ok_Ch, by decide +kernel, Or.inl (cn_inT 167 (by decide +kernel) (by decide +kernel))⟩
theorem fl_Ch_32 : cn_fl "ChunkedNodes$Channel" 32 1 5 := ⟨_, _, _, cn_ok_Ch, by decide +kernel, Or.inl (cn_inT 169 (by decide +kernel) (by decide +kernel))⟩
theorem fl_Ch_36 : cn_fl "ChunkedNodes$Channel" 36 3 0 := ⟨_, _, _, cn_ok_Me, by decide +kernel, Or.inr ⟨"ChunkedNodes", (cn_inN 150 (by decide +kernel) (by decide +kernel))⟩⟩
theorem fl_Ch_40 : cn_fl "ChunkedNodes$Channel" 40 0 1 := ⟨_, _, _, cn_ok_By, by decide +kernel, Or.inr ⟨"ChunkedNodes", (cn_inN 105 (by decide +kernel) (by decide +kernel))⟩⟩
theorem fl_Ch_45 : cn_fl "ChunkedNodes$Channel" 45 1 6 := ⟨_, _, _, cn_ok_Ch, by decide +kernel, Or.inl (cn_inT 170 (by decide +kernel) (by decide +kernel))⟩
theorem fl_Ch_48 : cn_fl "ChunkedNodes$Channel" 48 1 3 := ⟨_, _, _, cn_ok_Ch, by decide +kernel, Or.inl (cn_inT 166 (by decide +kernel) (by decide +kernel))⟩
theorem fl_It_11 : cn_fl "ChunkedNodes$Item" 11 2 0 := ⟨_, _, _, cn_ok_It, by decide +kernel, Or.inl (cn_inT 233 (by decide +kernel) (by decide +kernel))⟩
theorem fl_It_17 : cn_fl "ChunkedNodes$Item" 17 2 2 := ⟨_, _, _, cn_ok_It, by decide +kernel, Or.inl (cn_inT 236 (by decide +kernel) (by decide +kernel))⟩
theorem fl_It_22 : cn_fl "ChunkedNodes$Item" 22 2 1 := ⟨_, _, _, cn_ok_It, by decide +kernel, Or.inl (cn_inT 234 (by decide +kernel) (by decide +kernel))⟩
theorem fl_It_25 : cn_fl "ChunkedNodes$Item" 25 2 3 := ⟨_, _, _, cn_ok_It, by decide +kernel, Or.inl (cn_inT 237 (by decide +kernel) (by decide +kernel))⟩
theorem fl_It_29 : cn_fl "ChunkedNodes$Item" 29 2 4 := ⟨_, _, _, cn_ok_It, by decide +kernel, Or.inl (cn_inT 238 (by decide +kernel) (by decide +kernel))⟩
theorem fl_It_35 : cn_fl "ChunkedNodes$Item" 35 5 0 := ⟨_, _, _, cn_ok_Nt, by decide +kernel, Or.inr ⟨"ChunkedNodes", (cn_inN 224 (by decide +kernel) (by decide +kernel))⟩⟩
theorem fl_It_48 : cn_fl "ChunkedNodes$Item" 48 5 1 := ⟨_, _, _, cn_ok_Nt, by decide +kernel, Or.inr ⟨"ChunkedNodes", (cn_inN 226 (by decide +kernel) (by decide +kernel))⟩⟩
theorem fl_Me_14 : cn_fl "ChunkedNodes$Message" 14 3 0 := ⟨_, _, _, cn_ok_Me, by decide +kernel, Or.inl (cn_inT 149 (by decide +kernel) (by decide +kernel))⟩
theorem fl_Me_20 : cn_fl "ChunkedNodes$Message" 20 3 1 := ⟨_, _, _, cn_ok_Me, by decide +kernel, Or.inl (cn_inT 152 (by decide +kernel) (by decide +kernel))⟩
theorem fl_Me_24 : cn_fl "ChunkedNodes$Message" 24 3 2 := ⟨_, _, _, cn_ok_Me, by decide +kernel, Or.inl (cn_inT 153 (by decide +kernel) (by decide +kernel))⟩
theorem fl_Me_28 : cn_fl "ChunkedNodes$Message" 28 0 1 := ⟨_, _, _, cn_ok_By, by decide +kernel, Or.inr ⟨"ChunkedNodes", (cn_inN 104 (by decide +kernel) (by decide +kernel))⟩⟩
theorem fl_Me_35 : cn_fl "ChunkedNodes$Message" 35 0 0 := ⟨_, _, _, cn_ok_By, by decide +kernel, Or.inr ⟨"ChunkedNodes", (cn_inN 102 (by decide +kernel) (by decide +kernel))⟩⟩
theorem fl_No_14 : cn_fl "ChunkedNodes$Node" 14 4 2 := ⟨_, _, _, cn_ok_No, by decide +kernel, Or.inl (cn_inT 199 (by decide +kernel) (by decide +kernel))⟩
theorem fl_No_20 : cn_fl "ChunkedNodes$Node" 20 4 0 := ⟨_, _, _, cn_ok_No, by decide +kernel, Or.inl (cn_inT 195 (by decide +kernel) (by decide +kernel))⟩
theorem fl_No_24 : cn_fl "ChunkedNodes$Node" 24 4 1 := ⟨_, _, _, cn_ok_No, by decide +kernel, Or.inl (cn_inT 197 (by decide +kernel) (by decide +kernel))⟩
theorem fl_Nt_14 : cn_fl "ChunkedNodes$Notice" 14 5 0 := ⟨_, _, _, cn_ok_Nt, by decide +kernel, Or.inl (cn_inT 223 (by decide +kernel) (by decide +kernel))⟩
theorem fl_Pa_14 : cn_fl "ChunkedNodes$Parcel" 14 6 1 := ⟨_, _, _, cn_ok_Pa, by decide +kernel, Or.inl (cn_inT 115 (by decide +kernel) (by decide +kernel))⟩
theorem fl_Sf_11 : cn_fl "ChunkedNodes$Shelf" 11 7 0 := ⟨_, _, _, cn_ok_Sf, by decide +kernel, Or.inl (cn_inT 123 (by decide +kernel) (by decide +kernel))⟩
theorem fl_Sf_18 : cn_fl "ChunkedNodes$Shelf" 18 7 1 := ⟨_, _, _, cn_ok_Sf, by decide +kernel, Or.inl (cn_inT 125 (by decide +kernel) (by decide +kernel))⟩
theorem fl_Sf_22 : cn_fl "ChunkedNodes$Shelf" 22 7 2 := ⟨_, _, _, cn_ok_Sf, by decide +kernel, Or.inl (cn_inT 127 (by decide +kernel) (by decide +kernel))⟩
theorem fl_Sf_25 : cn_fl "ChunkedNodes$Shelf" 25 6 0 := ⟨_, _, _, cn_ok_Pa, by decide +kernel, Or.inr ⟨"ChunkedNodes", (cn_inN 113 (by decide +kernel) (by decide +kernel))⟩⟩
theorem fl_Sf_36 : cn_fl "ChunkedNodes$Shelf" 36 6 1 := ⟨_, _, _, cn_ok_Pa, by decide +kernel, Or.inr ⟨"ChunkedNodes", (cn_inN 116 (by decide +kernel) (by decide +kernel))⟩⟩
theorem fl_M_7 : cn_fl "ChunkedNodesModel" 7 9 1 := ⟨_, _, _, cn_ok_M, by decide +kernel, Or.inl (cn_inT 572 (by decide +kernel) (by decide +kernel))⟩
theorem fl_M_13 : cn_fl "ChunkedNodesModel" 13 9 2 := ⟨_, _, _, cn_ok_M, by decide +kernel, Or.inl (cn_inT 573 (by decide +kernel) (by decide +kernel))⟩
theorem fl_M_17 : cn_fl "ChunkedNodesModel" 17 9 3 := ⟨_, _, _, cn_ok_M, by decide +kernel, Or.inl (cn_inT 574 (by decide +kernel) (by decide +kernel))⟩
theorem fl_M_21 : cn_fl "ChunkedNodesModel" 21 9 4 := ⟨_, _, _, cn_ok_M, by decide +kernel, Or.inl (cn_inT 575 (by decide +kernel) (by decide +kernel))⟩
theorem fl_M_24 : cn_fl "ChunkedNodesModel" 24 9 5 := ⟨_, _, _, cn_ok_M, by decide +kernel, Or.inl (cn_inT 576 (by decide +kernel) (by decide +kernel))⟩
theorem fl_M_27 : cn_fl "ChunkedNodesModel" 27 9 6 := ⟨_, _, _, cn_ok_M, by decide +kernel, Or.inl (cn_inT 577 (by decide +kernel) (by decide +kernel))⟩
theorem fl_M_30 : cn_fl "ChunkedNodesModel" 30 9 8 := ⟨_, _, _, cn_ok_M, by decide +kernel, Or.inl (cn_inT 579 (by decide +kernel) (by decide +kernel))⟩
theorem fl_M_33 : cn_fl "ChunkedNodesModel" 33 9 9 := ⟨_, _, _, cn_ok_M, by decide +kernel, Or.inl (cn_inT 580 (by decide +kernel) (by decide +kernel))⟩
theorem fl_M_36 : cn_fl "ChunkedNodesModel" 36 9 10 := ⟨_, _, _, cn_ok_M, by decide +kernel, Or.inl (cn_inT 581 (by decide +kernel) (by decide +kernel))⟩
theorem fl_M_39 : cn_fl "ChunkedNodesModel" 39 9 11 := ⟨_, _, _, cn_ok_M, by decide +kernel, Or.inl (cn_inT 582 (by decide +kernel) (by decide +kernel))⟩
theorem fl_M_42 : cn_fl "ChunkedNodesModel" 42 9 12 := ⟨_, _, _, cn_ok_M, by decide +kernel, Or.inl (cn_inT 583 (by decide +kernel) (by decide +kernel))⟩
theorem fl_M_45 : cn_fl "ChunkedNodesModel" 45 9 13 := ⟨_, _, _, cn_ok_M, by decide +kernel, Or.inl (cn_inT 584 (by decide +kernel) (by decide +kernel))⟩
theorem fl_M_48 : cn_fl "ChunkedNodesModel" 48 9 14 := ⟨_, _, _, cn_ok_M, by decide +kernel, Or.inl (cn_inT 585 (by decide +kernel) (by decide +kernel))⟩
theorem fl_M_51 : cn_fl "ChunkedNodesModel" 51 9 17 := ⟨_, _, _, cn_ok_M, by decide +kernel, Or.inl (cn_inT 588 (by decide +kernel) (by decide +kernel))⟩
theorem fl_M_54 : cn_fl "ChunkedNodesModel" 54 9 18 := ⟨_, _, _, cn_ok_M, by decide +kernel, Or.inl (cn_inT 589 (by decide +kernel) (by decide +kernel))⟩
theorem fl_M_57 : cn_fl "ChunkedNodesModel" 57 9 19 := ⟨_, _, _, cn_ok_M, by decide +kernel, Or.inl (cn_inT 590 (by decide +kernel) (by decide +kernel))⟩
theorem fl_M_60 : cn_fl "ChunkedNodesModel" 60 9 26 := ⟨_, _, _, cn_ok_M, by decide +kernel, Or.inl (cn_inT 597 (by decide +kernel) (by decide +kernel))⟩
theorem fl_M_63 : cn_fl "ChunkedNodesModel" 63 9 31 := ⟨_, _, _, cn_ok_M, by decide +kernel, Or.inl (cn_inT 602 (by decide +kernel) (by decide +kernel))⟩
theorem fl_M_66 : cn_fl "ChunkedNodesModel" 66 9 32 := ⟨_, _, _, cn_ok_M, by decide +kernel, Or.inl (cn_inT 603 (by decide +kernel) (by decide +kernel))⟩
theorem fl_M_69 : cn_fl "ChunkedNodesModel" 69 9 36 := ⟨_, _, _, cn_ok_M, by decide +kernel, Or.inl (cn_inT 607 (by decide +kernel) (by decide +kernel))⟩
theorem fl_M_72 : cn_fl "ChunkedNodesModel" 72 9 0 := ⟨_, _, _, cn_ok_M, by decide +kernel, Or.inl (cn_inT 571 (by decide +kernel) (by decide +kernel))⟩
theorem fl_M_76 : cn_fl "ChunkedNodesModel" 76 9 20 := ⟨_, _, _, cn_ok_M, by decide +kernel, Or.inl (cn_inT 591 (by decide +kernel) (by decide +kernel))⟩
theorem fl_M_79 : cn_fl "ChunkedNodesModel" 79 9 22 := ⟨_, _, _, cn_ok_M, by decide +kernel, Or.inl (cn_inT 593 (by decide +kernel) (by decide +kernel))⟩
theorem fl_M_82 : cn_fl "ChunkedNodesModel" 82 9 7 := ⟨_, _, _, cn_ok_M, by decide +kernel, Or.inl (cn_inT 578 (by decide +kernel) (by decide +kernel))⟩
theorem fl_M_85 : cn_fl "ChunkedNodesModel" 85 9 15 := ⟨_, _, _, cn_ok_M, by decide +kernel, Or.inl (cn_inT 586 (by decide +kernel) (by decide +kernel))⟩
theorem fl_M_88 : cn_fl "ChunkedNodesModel" 88 9 16 := ⟨_, _, _, cn_ok_M, by decide +kernel, Or.inl (cn_inT 587 (by decide +kernel) (by decide +kernel))⟩
theorem fl_M_91 : cn_fl "ChunkedNodesModel" 91 9 33 := ⟨_, _, _, cn_ok_M, by decide +kernel, Or.inl (cn_inT 604 (by decide +kernel) (by decide +kernel))⟩
theorem fl_M_94 : cn_fl "ChunkedNodesModel" 94 9 35 := ⟨_, _, _, cn_ok_M, by decide +kernel, Or.inl (cn_inT 606 (by decide +kernel) (by decide +kernel))⟩
theorem fl_M_125 : cn_fl "ChunkedNodesModel" 125 9 30 := ⟨_, _, _, cn_ok_M, by decide +kernel, Or.inl (cn_inT 601 (by decide +kernel) (by decide +kernel))⟩
theorem fl_M_137 : cn_fl "ChunkedNodesModel" 137 9 21 := ⟨_, _, _, cn_ok_M, by decide +kernel, Or.inl (cn_inT 592 (by decide +kernel) (by decide +kernel))⟩
theorem fl_M_140 : cn_fl "ChunkedNodesModel" 140 9 25 := ⟨_, _, _, cn_ok_M, by decide +kernel, Or.inl (cn_inT 596 (by decide +kernel) (by decide +kernel))⟩
theorem fl_M_143 : cn_fl "ChunkedNodesModel" 143 9 23 := ⟨_, _, _, cn_ok_M, by decide +kernel, Or.inl (cn_inT 594 (by decide +kernel) (by decide +kernel))⟩
theorem fl_M_149 : cn_fl "ChunkedNodesModel" 149 9 24 := ⟨_, _, _, cn_ok_M, by decide +kernel, Or.inl (cn_inT 595 (by decide +kernel) (by decide +kernel))⟩
theorem fl_M_152 : cn_fl "ChunkedNodesModel" 152 9 34 := ⟨_, _, _, cn_ok_M, by decide +kernel, Or.inl (cn_inT 605 (by decide +kernel) (by decide +kernel))⟩
theorem fl_M_158 : cn_fl "ChunkedNodesModel" 158 9 27 := ⟨_, _, _, cn_ok_M, by decide +kernel, Or.inl (cn_inT 598 (by decide +kernel) (by decide +kernel))⟩
theorem fl_M_161 : cn_fl "ChunkedNodesModel" 161 9 28 := ⟨_, _, _, cn_ok_M, by decide +kernel, Or.inl (cn_inT 599 (by decide +kernel) (by decide +kernel))⟩
theorem fl_M_168 : cn_fl "ChunkedNodesModel" 168 9 29 := ⟨_, _, _, cn_ok_M, by decide +kernel, Or.inl (cn_inT 600 (by decide +kernel) (by decide +kernel))⟩
theorem mv_X_53 : cn_mv "ChunkedNodes" 53 mi_No_become 4 2 := ⟨Or.inl (cn_inT 251 (by decide +kernel) (by decide +kernel)), (cn_inT 252 (by decide +kernel) (by decide +kernel)), (cn_inT 253 (by decide +kernel) (by decide +kernel)), mo_No_become, by decide +kernel, by decide +kernel⟩
theorem mv_X_64 : cn_mv "ChunkedNodes" 64 mi_Ch_restart 1 0 := ⟨Or.inl (cn_inT 300 (by decide +kernel) (by decide +kernel)), (cn_inT 301 (by decide +kernel) (by decide +kernel)), (cn_inT 302 (by decide +kernel) (by decide +kernel)), mo_Ch_restart, by decide +kernel, by decide +kernel⟩
theorem mv_X_70 : cn_mv "ChunkedNodes" 70 mi_Sf_restart 7 0 := ⟨Or.inl (cn_inT 304 (by decide +kernel) (by decide +kernel)), (cn_inT 305 (by decide +kernel) (by decide +kernel)), (cn_inT 306 (by decide +kernel) (by decide +kernel)), mo_Sf_restart, by decide +kernel, by decide +kernel⟩
theorem mv_X_71 : cn_mv "ChunkedNodes" 71 mi_By_clear 0 0 := ⟨Or.inl (cn_inT 308 (by decide +kernel) (by decide +kernel)), (cn_inT 309 (by decide +kernel) (by decide +kernel)), (cn_inT 310 (by decide +kernel) (by decide +kernel)), mo_By_clear, by decide +kernel, by decide +kernel⟩
theorem mv_X_78 : cn_mv "ChunkedNodes" 78 mi_X_addNode 8 2 := ⟨Or.inl (cn_inT 320 (by decide +kernel) (by decide +kernel)), (cn_inT 322 (by decide +kernel) (by decide +kernel)), (cn_inT 0 (by decide +kernel) (by decide +kernel)), mo_X_addNode, by decide +kernel, by decide +kernel⟩
theorem mv_X_86 : cn_mv "ChunkedNodes" 86 mi_X_isVariable 8 1 := ⟨Or.inl (cn_inT 328 (by decide +kernel) (by decide +kernel)), (cn_inT 330 (by decide +kernel) (by decide +kernel)), (cn_inT 2 (by decide +kernel) (by decide +kernel)), mo_X_isVariable, by decide +kernel, by decide +kernel⟩
theorem mv_X_92 : cn_mv "ChunkedNodes" 92 mi_By_add 0 1 := ⟨Or.inl (cn_inT 343 (by decide +kernel) (by decide +kernel)), (cn_inT 256 (by decide +kernel) (by decide +kernel)), (cn_inT 257 (by decide +kernel) (by decide +kernel)), mo_By_add, by decide +kernel, by decide +kernel⟩
theorem mv_X_95 : cn_mv "ChunkedNodes" 95 mi_By_addNumber 0 2 := ⟨Or.inl (cn_inT 344 (by decide +kernel) (by decide +kernel)), (cn_inT 260 (by decide +kernel) (by decide +kernel)), (cn_inT 261 (by decide +kernel) (by decide +kernel)), mo_By_addNumber, by decide +kernel, by decide +kernel⟩
theorem mv_X_99 : cn_mv "ChunkedNodes" 99 mi_X_changeValue 8 1 := ⟨Or.inl (cn_inT 345 (by decide +kernel) (by decide +kernel)), (cn_inT 347 (by decide +kernel) (by decide +kernel)), (cn_inT 3 (by decide +kernel) (by decide +kernel)), mo_X_changeValue, by decide +kernel, by decide +kernel⟩
theorem mv_X_102 : cn_mv "ChunkedNodes" 102 mi_Ch_mustClose 1 4 := ⟨Or.inl (cn_inT 381 (by decide +kernel) (by decide +kernel)), (cn_inT 382 (by decide +kernel) (by decide +kernel)), (cn_inT 383 (by decide +kernel) (by decide +kernel)), mo_Ch_mustClose, by decide +kernel, by decide +kernel⟩
theorem mv_X_106 : cn_mv "ChunkedNodes" 106 mi_Ch_close 1 0 := ⟨Or.inl (cn_inT 389 (by decide +kernel) (by decide +kernel)), (cn_inT 390 (by decide +kernel) (by decide +kernel)), (cn_inT 391 (by decide +kernel) (by decide +kernel)), mo_Ch_close, by decide +kernel, by decide +kernel⟩
theorem mv_X_109 : cn_mv "ChunkedNodes" 109 mi_Ch_take 1 5 := ⟨Or.inl (cn_inT 393 (by decide +kernel) (by decide +kernel)), (cn_inT 394 (by decide +kernel) (by decide +kernel)), (cn_inT 395 (by decide +kernel) (by decide +kernel)), mo_Ch_take, by decide +kernel, by decide +kernel⟩
theorem mv_X_117 : cn_mv "ChunkedNodes" 117 mi_X_serve 8 1 := ⟨Or.inl (cn_inT 399 (by decide +kernel) (by decide +kernel)), (cn_inT 401 (by decide +kernel) (by decide +kernel)), (cn_inT 6 (by decide +kernel) (by decide +kernel)), mo_X_serve, by decide +kernel, by decide +kernel⟩
theorem mv_X_121 : cn_mv "ChunkedNodes" 121 mi_By_set 0 2 := ⟨Or.inl (cn_inT 476 (by decide +kernel) (by decide +kernel)), (cn_inT 477 (by decide +kernel) (by decide +kernel)), (cn_inT 478 (by decide +kernel) (by decide +kernel)), mo_By_set, by decide +kernel, by decide +kernel⟩
theorem mv_X_135 : cn_mv "ChunkedNodes" 135 mi_By_at 0 1 := ⟨Or.inl (cn_inT 460 (by decide +kernel) (by decide +kernel)), (cn_inT 461 (by decide +kernel) (by decide +kernel)), (cn_inT 462 (by decide +kernel) (by decide +kernel)), mo_By_at, by decide +kernel, by decide +kernel⟩
theorem mv_X_157 : cn_mv "ChunkedNodes" 157 mi_X_isNode 8 1 := ⟨Or.inl (cn_inT 324 (by decide +kernel) (by decide +kernel)), (cn_inT 326 (by decide +kernel) (by decide +kernel)), (cn_inT 1 (by decide +kernel) (by decide +kernel)), mo_X_isNode, by decide +kernel, by decide +kernel⟩
theorem mv_X_160 : cn_mv "ChunkedNodes" 160 mi_By_isSameAs 0 1 := ⟨Or.inl (cn_inT 349 (by decide +kernel) (by decide +kernel)), (cn_inT 350 (by decide +kernel) (by decide +kernel)), (cn_inT 351 (by decide +kernel) (by decide +kernel)), mo_By_isSameAs, by decide +kernel, by decide +kernel⟩
theorem mv_X_164 : cn_mv "ChunkedNodes" 164 mi_By_append 0 1 := ⟨Or.inl (cn_inT 353 (by decide +kernel) (by decide +kernel)), (cn_inT 354 (by decide +kernel) (by decide +kernel)), (cn_inT 355 (by decide +kernel) (by decide +kernel)), mo_By_append, by decide +kernel, by decide +kernel⟩
theorem mv_X_171 : cn_mv "ChunkedNodes" 171 mi_It_addNotice 2 1 := ⟨Or.inl (cn_inT 363 (by decide +kernel) (by decide +kernel)), (cn_inT 364 (by decide +kernel) (by decide +kernel)), (cn_inT 365 (by decide +kernel) (by decide +kernel)), mo_It_addNotice, by decide +kernel, by decide +kernel⟩
theorem mv_X_174 : cn_mv "ChunkedNodes" 174 mi_Me_startReading 3 0 := ⟨Or.inl (cn_inT 403 (by decide +kernel) (by decide +kernel)), (cn_inT 404 (by decide +kernel) (by decide +kernel)), (cn_inT 405 (by decide +kernel) (by decide +kernel)), mo_Me_startReading, by decide +kernel, by decide +kernel⟩
theorem mv_X_177 : cn_mv "ChunkedNodes" 177 mi_Me_left 3 0 := ⟨Or.inl (cn_inT 407 (by decide +kernel) (by decide +kernel)), (cn_inT 408 (by decide +kernel) (by decide +kernel)), (cn_inT 409 (by decide +kernel) (by decide +kernel)), mo_Me_left, by decide +kernel, by decide +kernel⟩
theorem mv_X_181 : cn_mv "ChunkedNodes" 181 mi_Me_readByte 3 0 := ⟨Or.inl (cn_inT 411 (by decide +kernel) (by decide +kernel)), (cn_inT 412 (by decide +kernel) (by decide +kernel)), (cn_inT 413 (by decide +kernel) (by decide +kernel)), mo_Me_readByte, by decide +kernel, by decide +kernel⟩
theorem mv_X_184 : cn_mv "ChunkedNodes" 184 mi_X_serveRead 8 1 := ⟨Or.inl (cn_inT 415 (by decide +kernel) (by decide +kernel)), (cn_inT 417 (by decide +kernel) (by decide +kernel)), (cn_inT 7 (by decide +kernel) (by decide +kernel)), mo_X_serveRead, by decide +kernel, by decide +kernel⟩
theorem mv_X_187 : cn_mv "ChunkedNodes" 187 mi_X_serveWrite 8 1 := ⟨Or.inl (cn_inT 433 (by decide +kernel) (by decide +kernel)), (cn_inT 435 (by decide +kernel) (by decide +kernel)), (cn_inT 9 (by decide +kernel) (by decide +kernel)), mo_X_serveWrite, by decide +kernel, by decide +kernel⟩
theorem mv_X_190 : cn_mv "ChunkedNodes" 190 mi_X_serveBrowse 8 1 := ⟨Or.inl (cn_inT 464 (by decide +kernel) (by decide +kernel)), (cn_inT 466 (by decide +kernel) (by decide +kernel)), (cn_inT 14 (by decide +kernel) (by decide +kernel)), mo_X_serveBrowse, by decide +kernel, by decide +kernel⟩
theorem mv_X_193 : cn_mv "ChunkedNodes" 193 mi_X_serveWatch 8 1 := ⟨Or.inl (cn_inT 484 (by decide +kernel) (by decide +kernel)), (cn_inT 486 (by decide +kernel) (by decide +kernel)), (cn_inT 18 (by decide +kernel) (by decide +kernel)), mo_X_serveWatch, by decide +kernel, by decide +kernel⟩
theorem mv_X_196 : cn_mv "ChunkedNodes" 196 mi_X_servePublish 8 1 := ⟨Or.inl (cn_inT 496 (by decide +kernel) (by decide +kernel)), (cn_inT 498 (by decide +kernel) (by decide +kernel)), (cn_inT 19 (by decide +kernel) (by decide +kernel)), mo_X_servePublish, by decide +kernel, by decide +kernel⟩
theorem mv_X_199 : cn_mv "ChunkedNodes" 199 mi_X_serveAgain 8 1 := ⟨Or.inl (cn_inT 528 (by decide +kernel) (by decide +kernel)), (cn_inT 530 (by decide +kernel) (by decide +kernel)), (cn_inT 23 (by decide +kernel) (by decide +kernel)), mo_X_serveAgain, by decide +kernel, by decide +kernel⟩
theorem mv_X_202 : cn_mv "ChunkedNodes" 202 mi_Me_readName 3 0 := ⟨Or.inl (cn_inT 419 (by decide +kernel) (by decide +kernel)), (cn_inT 420 (by decide +kernel) (by decide +kernel)), (cn_inT 421 (by decide +kernel) (by decide +kernel)), mo_Me_readName, by decide +kernel, by decide +kernel⟩
theorem mv_X_205 : cn_mv "ChunkedNodes" 205 mi_Me_isReadWhole 3 0 := ⟨Or.inl (cn_inT 424 (by decide +kernel) (by decide +kernel)), (cn_inT 425 (by decide +kernel) (by decide +kernel)), (cn_inT 426 (by decide +kernel) (by decide +kernel)), mo_Me_isReadWhole, by decide +kernel, by decide +kernel⟩
theorem mv_X_209 : cn_mv "ChunkedNodes" 209 mi_X_checkVariable 8 1 := ⟨Or.inl (cn_inT 429 (by decide +kernel) (by decide +kernel)), (cn_inT 431 (by decide +kernel) (by decide +kernel)), (cn_inT 8 (by decide +kernel) (by decide +kernel)), mo_X_checkVariable, by decide +kernel, by decide +kernel⟩
theorem mv_X_212 : cn_mv "ChunkedNodes" 212 mi_Me_readValue 3 2 := ⟨Or.inr ⟨"ChunkedNodes", (cn_inN 437 (by decide +kernel) (by decide +kernel))⟩, (cn_inT 439 (by decide +kernel) (by decide +kernel)), (cn_inT 10 (by decide +kernel) (by decide +kernel)), mo_Me_readValue, by decide +kernel, by decide +kernel⟩
theorem mv_X_216 : cn_mv "ChunkedNodes" 216 mi_X_replyParent 8 1 := ⟨Or.inl (cn_inT 468 (by decide +kernel) (by decide +kernel)), (cn_inT 470 (by decide +kernel) (by decide +kernel)), (cn_inT 15 (by decide +kernel) (by decide +kernel)), mo_X_replyParent, by decide +kernel, by decide +kernel⟩
theorem mv_X_219 : cn_mv "ChunkedNodes" 219 mi_X_replyChildren 8 1 := ⟨Or.inl (cn_inT 480 (by decide +kernel) (by decide +kernel)), (cn_inT 482 (by decide +kernel) (by decide +kernel)), (cn_inT 17 (by decide +kernel) (by decide +kernel)), mo_X_replyChildren, by decide +kernel, by decide +kernel⟩
theorem mv_X_225 : cn_mv "ChunkedNodes" 225 mi_X_replyName 8 1 := ⟨Or.inl (cn_inT 472 (by decide +kernel) (by decide +kernel)), (cn_inT 474 (by decide +kernel) (by decide +kernel)), (cn_inT 16 (by decide +kernel) (by decide +kernel)), mo_X_replyName, by decide +kernel, by decide +kernel⟩
theorem mv_X_236 : cn_mv "ChunkedNodes" 236 mi_It_watch 2 3 := ⟨Or.inl (cn_inT 492 (by decide +kernel) (by decide +kernel)), (cn_inT 493 (by decide +kernel) (by decide +kernel)), (cn_inT 494 (by decide +kernel) (by decide +kernel)), mo_It_watch, by decide +kernel, by decide +kernel⟩
theorem mv_X_240 : cn_mv "ChunkedNodes" 240 mi_Me_readNumber 3 0 := ⟨Or.inl (cn_inT 500 (by decide +kernel) (by decide +kernel)), (cn_inT 451 (by decide +kernel) (by decide +kernel)), (cn_inT 452 (by decide +kernel) (by decide +kernel)), mo_Me_readNumber, by decide +kernel, by decide +kernel⟩
theorem mv_X_243 : cn_mv "ChunkedNodes" 243 mi_Sf_drop 7 1 := ⟨Or.inl (cn_inT 501 (by decide +kernel) (by decide +kernel)), (cn_inT 502 (by decide +kernel) (by decide +kernel)), (cn_inT 503 (by decide +kernel) (by decide +kernel)), mo_Sf_drop, by decide +kernel, by decide +kernel⟩
theorem mv_X_246 : cn_mv "ChunkedNodes" 246 mi_X_countNotices 8 0 := ⟨Or.inl (cn_inT 513 (by decide +kernel) (by decide +kernel)), (cn_inT 515 (by decide +kernel) (by decide +kernel)), (cn_inT 21 (by decide +kernel) (by decide +kernel)), mo_X_countNotices, by decide +kernel, by decide +kernel⟩
theorem mv_X_249 : cn_mv "ChunkedNodes" 249 mi_Sf_keepAnother 7 0 := ⟨Or.inl (cn_inT 517 (by decide +kernel) (by decide +kernel)), (cn_inT 518 (by decide +kernel) (by decide +kernel)), (cn_inT 519 (by decide +kernel) (by decide +kernel)), mo_Sf_keepAnother, by decide +kernel, by decide +kernel⟩
theorem mv_X_254 : cn_mv "ChunkedNodes" 254 mi_X_moveNotices 8 2 := ⟨Or.inl (cn_inT 523 (by decide +kernel) (by decide +kernel)), (cn_inT 525 (by decide +kernel) (by decide +kernel)), (cn_inT 22 (by decide +kernel) (by decide +kernel)), mo_X_moveNotices, by decide +kernel, by decide +kernel⟩
theorem mv_X_257 : cn_mv "ChunkedNodes" 257 mi_It_removeFirst 2 0 := ⟨Or.inl (cn_inT 527 (by decide +kernel) (by decide +kernel)), (cn_inT 372 (by decide +kernel) (by decide +kernel)), (cn_inT 373 (by decide +kernel) (by decide +kernel)), mo_It_removeFirst, by decide +kernel, by decide +kernel⟩
theorem mv_X_267 : cn_mv "ChunkedNodes" 267 mi_Sf_find 7 1 := ⟨Or.inl (cn_inT 532 (by decide +kernel) (by decide +kernel)), (cn_inT 506 (by decide +kernel) (by decide +kernel)), (cn_inT 507 (by decide +kernel) (by decide +kernel)), mo_Sf_find, by decide +kernel, by decide +kernel⟩
theorem mv_By_17 : cn_mv "ChunkedNodes$Bytes" 17 mi_By_add 0 1 := ⟨Or.inl (cn_inT 263 (by decide +kernel) (by decide +kernel)), (cn_inT 256 (by decide +kernel) (by decide +kernel)), (cn_inT 257 (by decide +kernel) (by decide +kernel)), mo_By_add, by decide +kernel, by decide +kernel⟩
theorem mv_Ch_28 : cn_mv "ChunkedNodes$Channel" 28 mi_Ch_isNext 1 1 := ⟨Or.inl (cn_inT 385 (by decide +kernel) (by decide +kernel)), (cn_inT 387 (by decide +kernel) (by decide +kernel)), (cn_inT 5 (by decide +kernel) (by decide +kernel)), mo_Ch_isNext, by decide +kernel, by decide +kernel⟩
theorem mv_Ch_51 : cn_mv "ChunkedNodes$Channel" 51 mi_By_clear 0 0 := ⟨Or.inl (cn_inT 397 (by decide +kernel) (by decide +kernel)), (cn_inT 309 (by decide +kernel) (by decide +kernel)), (cn_inT 310 (by decide +kernel) (by decide +kernel)), mo_By_clear, by decide +kernel, by decide +kernel⟩
theorem mv_Ch_54 : cn_mv "ChunkedNodes$Channel" 54 mi_By_addNumber 0 2 := ⟨Or.inl (cn_inT 398 (by decide +kernel) (by decide +kernel)), (cn_inT 260 (by decide +kernel) (by decide +kernel)), (cn_inT 261 (by decide +kernel) (by decide +kernel)), mo_By_addNumber, by decide +kernel, by decide +kernel⟩
theorem mv_It_32 : cn_mv "ChunkedNodes$Item" 32 mi_It_discard 2 0 := ⟨Or.inl (cn_inT 367 (by decide +kernel) (by decide +kernel)), (cn_inT 369 (by decide +kernel) (by decide +kernel)), (cn_inT 4 (by decide +kernel) (by decide +kernel)), mo_It_discard, by decide +kernel, by decide +kernel⟩
theorem mv_It_39 : cn_mv "ChunkedNodes$Item" 39 mi_By_clear 0 0 := ⟨Or.inl (cn_inT 375 (by decide +kernel) (by decide +kernel)), (cn_inT 309 (by decide +kernel) (by decide +kernel)), (cn_inT 310 (by decide +kernel) (by decide +kernel)), mo_By_clear, by decide +kernel, by decide +kernel⟩
theorem mv_It_44 : cn_mv "ChunkedNodes$Item" 44 mi_By_append 0 1 := ⟨Or.inl (cn_inT 376 (by decide +kernel) (by decide +kernel)), (cn_inT 354 (by decide +kernel) (by decide +kernel)), (cn_inT 355 (by decide +kernel) (by decide +kernel)), mo_By_append, by decide +kernel, by decide +kernel⟩
theorem mv_It_51 : cn_mv "ChunkedNodes$Item" 51 mi_It_removeFirst 2 0 := ⟨Or.inl (cn_inT 371 (by decide +kernel) (by decide +kernel)), (cn_inT 372 (by decide +kernel) (by decide +kernel)), (cn_inT 373 (by decide +kernel) (by decide +kernel)), mo_It_removeFirst, by decide +kernel, by decide +kernel⟩
theorem mv_Me_31 : cn_mv "ChunkedNodes$Message" 31 mi_Me_left 3 0 := ⟨Or.inl (cn_inT 428 (by decide +kernel) (by decide +kernel)), (cn_inT 408 (by decide +kernel) (by decide +kernel)), (cn_inT 409 (by decide +kernel) (by decide +kernel)), mo_Me_left, by decide +kernel, by decide +kernel⟩
theorem mv_Me_39 : cn_mv "ChunkedNodes$Message" 39 mi_Me_readByte 3 0 := ⟨Or.inl (cn_inT 423 (by decide +kernel) (by decide +kernel)), (cn_inT 412 (by decide +kernel) (by decide +kernel)), (cn_inT 413 (by decide +kernel) (by decide +kernel)), mo_Me_readByte, by decide +kernel, by decide +kernel⟩
theorem mv_Me_42 : cn_mv "ChunkedNodes$Message" 42 mi_By_add 0 1 := ⟨Or.inl (cn_inT 441 (by decide +kernel) (by decide +kernel)), (cn_inT 256 (by decide +kernel) (by decide +kernel)), (cn_inT 257 (by decide +kernel) (by decide +kernel)), mo_By_add, by decide +kernel, by decide +kernel⟩
theorem mv_Me_45 : cn_mv "ChunkedNodes$Message" 45 mi_Me_moveBytes 3 2 := ⟨Or.inl (cn_inT 442 (by decide +kernel) (by decide +kernel)), (cn_inT 444 (by decide +kernel) (by decide +kernel)), (cn_inT 11 (by decide +kernel) (by decide +kernel)), mo_Me_moveBytes, by decide +kernel, by decide +kernel⟩
theorem mv_Me_49 : cn_mv "ChunkedNodes$Message" 49 mi_Me_readText 3 1 := ⟨Or.inl (cn_inT 446 (by decide +kernel) (by decide +kernel)), (cn_inT 448 (by decide +kernel) (by decide +kernel)), (cn_inT 12 (by decide +kernel) (by decide +kernel)), mo_Me_readText, by decide +kernel, by decide +kernel⟩
theorem mv_Me_53 : cn_mv "ChunkedNodes$Message" 53 mi_Me_readList 3 2 := ⟨Or.inl (cn_inT 455 (by decide +kernel) (by decide +kernel)), (cn_inT 457 (by decide +kernel) (by decide +kernel)), (cn_inT 13 (by decide +kernel) (by decide +kernel)), mo_Me_readList, by decide +kernel, by decide +kernel⟩
theorem mv_Me_56 : cn_mv "ChunkedNodes$Message" 56 mi_Me_readNumber 3 0 := ⟨Or.inl (cn_inT 450 (by decide +kernel) (by decide +kernel)), (cn_inT 451 (by decide +kernel) (by decide +kernel)), (cn_inT 452 (by decide +kernel) (by decide +kernel)), mo_Me_readNumber, by decide +kernel, by decide +kernel⟩
theorem mv_Me_59 : cn_mv "ChunkedNodes$Message" 59 mi_By_addNumber 0 2 := ⟨Or.inl (cn_inT 454 (by decide +kernel) (by decide +kernel)), (cn_inT 260 (by decide +kernel) (by decide +kernel)), (cn_inT 261 (by decide +kernel) (by decide +kernel)), mo_By_addNumber, by decide +kernel, by decide +kernel⟩
theorem mv_Me_63 : cn_mv "ChunkedNodes$Message" 63 mi_Me_readValue 3 2 := ⟨Or.inl (cn_inT 459 (by decide +kernel) (by decide +kernel)), (cn_inT 439 (by decide +kernel) (by decide +kernel)), (cn_inT 10 (by decide +kernel) (by decide +kernel)), mo_Me_readValue, by decide +kernel, by decide +kernel⟩
theorem mv_No_27 : cn_mv "ChunkedNodes$Node" 27 mi_By_add 0 1 := ⟨Or.inl (cn_inT 255 (by decide +kernel) (by decide +kernel)), (cn_inT 256 (by decide +kernel) (by decide +kernel)), (cn_inT 257 (by decide +kernel) (by decide +kernel)), mo_By_add, by decide +kernel, by decide +kernel⟩
theorem mv_No_30 : cn_mv "ChunkedNodes$Node" 30 mi_By_addNumber 0 2 := ⟨Or.inl (cn_inT 259 (by decide +kernel) (by decide +kernel)), (cn_inT 260 (by decide +kernel) (by decide +kernel)), (cn_inT 261 (by decide +kernel) (by decide +kernel)), mo_By_addNumber, by decide +kernel, by decide +kernel⟩
theorem mv_Sf_28 : cn_mv "ChunkedNodes$Shelf" 28 mi_Sf_find 7 1 := ⟨Or.inl (cn_inT 505 (by decide +kernel) (by decide +kernel)), (cn_inT 506 (by decide +kernel) (by decide +kernel)), (cn_inT 507 (by decide +kernel) (by decide +kernel)), mo_Sf_find, by decide +kernel, by decide +kernel⟩
theorem mv_Sf_32 : cn_mv "ChunkedNodes$Shelf" 32 mi_Sf_removeAt 7 1 := ⟨Or.inl (cn_inT 509 (by decide +kernel) (by decide +kernel)), (cn_inT 511 (by decide +kernel) (by decide +kernel)), (cn_inT 20 (by decide +kernel) (by decide +kernel)), mo_Sf_removeAt, by decide +kernel, by decide +kernel⟩
theorem mv_Sf_40 : cn_mv "ChunkedNodes$Shelf" 40 mi_By_clear 0 0 := ⟨Or.inl (cn_inT 521 (by decide +kernel) (by decide +kernel)), (cn_inT 309 (by decide +kernel) (by decide +kernel)), (cn_inT 310 (by decide +kernel) (by decide +kernel)), mo_By_clear, by decide +kernel, by decide +kernel⟩
theorem mv_Sf_45 : cn_mv "ChunkedNodes$Shelf" 45 mi_By_addNumber 0 2 := ⟨Or.inl (cn_inT 522 (by decide +kernel) (by decide +kernel)), (cn_inT 260 (by decide +kernel) (by decide +kernel)), (cn_inT 261 (by decide +kernel) (by decide +kernel)), mo_By_addNumber, by decide +kernel, by decide +kernel⟩
theorem mv_L_13 : cn_mv "ChunkedNodesLaw" 13 mi_X_open 8 0 := ⟨Or.inl (cn_inT 296 (by decide +kernel) (by decide +kernel)), (cn_inT 297 (by decide +kernel) (by decide +kernel)), (cn_inT 298 (by decide +kernel) (by decide +kernel)), mo_X_open, by decide +kernel, by decide +kernel⟩
theorem mv_L_16 : cn_mv "ChunkedNodesLaw" 16 mi_M_open 9 0 := ⟨Or.inl (cn_inT 684 (by decide +kernel) (by decide +kernel)), (cn_inT 685 (by decide +kernel) (by decide +kernel)), (cn_inT 686 (by decide +kernel) (by decide +kernel)), mo_M_open, by decide +kernel, by decide +kernel⟩
theorem mv_L_17 : cn_mv "ChunkedNodesLaw" 17 mi_X_isOpen 8 0 := ⟨Or.inl (cn_inT 312 (by decide +kernel) (by decide +kernel)), (cn_inT 313 (by decide +kernel) (by decide +kernel)), (cn_inT 314 (by decide +kernel) (by decide +kernel)), mo_X_isOpen, by decide +kernel, by decide +kernel⟩
theorem mv_L_21 : cn_mv "ChunkedNodesLaw" 21 mi_M_isOpen 9 0 := ⟨Or.inl (cn_inT 688 (by decide +kernel) (by decide +kernel)), (cn_inT 689 (by decide +kernel) (by decide +kernel)), (cn_inT 690 (by decide +kernel) (by decide +kernel)), mo_M_isOpen, by decide +kernel, by decide +kernel⟩
theorem mv_L_22 : cn_mv "ChunkedNodesLaw" 22 mi_X_folder 8 1 := ⟨Or.inl (cn_inT 316 (by decide +kernel) (by decide +kernel)), (cn_inT 317 (by decide +kernel) (by decide +kernel)), (cn_inT 318 (by decide +kernel) (by decide +kernel)), mo_X_folder, by decide +kernel, by decide +kernel⟩
theorem mv_L_26 : cn_mv "ChunkedNodesLaw" 26 mi_M_folder 9 1 := ⟨Or.inl (cn_inT 692 (by decide +kernel) (by decide +kernel)), (cn_inT 693 (by decide +kernel) (by decide +kernel)), (cn_inT 694 (by decide +kernel) (by decide +kernel)), mo_M_folder, by decide +kernel, by decide +kernel⟩
theorem mv_L_27 : cn_mv "ChunkedNodesLaw" 27 mi_X_variable 8 2 := ⟨Or.inl (cn_inT 332 (by decide +kernel) (by decide +kernel)), (cn_inT 333 (by decide +kernel) (by decide +kernel)), (cn_inT 334 (by decide +kernel) (by decide +kernel)), mo_X_variable, by decide +kernel, by decide +kernel⟩
theorem mv_L_31 : cn_mv "ChunkedNodesLaw" 31 mi_M_variable 9 2 := ⟨Or.inl (cn_inT 704 (by decide +kernel) (by decide +kernel)), (cn_inT 705 (by decide +kernel) (by decide +kernel)), (cn_inT 706 (by decide +kernel) (by decide +kernel)), mo_M_variable, by decide +kernel, by decide +kernel⟩
theorem mv_L_34 : cn_mv "ChunkedNodesLaw" 34 mi_X_poke 8 2 := ⟨Or.inl (cn_inT 339 (by decide +kernel) (by decide +kernel)), (cn_inT 340 (by decide +kernel) (by decide +kernel)), (cn_inT 341 (by decide +kernel) (by decide +kernel)), mo_X_poke, by decide +kernel, by decide +kernel⟩
theorem mv_L_38 : cn_mv "ChunkedNodesLaw" 38 mi_M_poke 9 2 := ⟨Or.inl (cn_inT 714 (by decide +kernel) (by decide +kernel)), (cn_inT 715 (by decide +kernel) (by decide +kernel)), (cn_inT 716 (by decide +kernel) (by decide +kernel)), mo_M_poke, by decide +kernel, by decide +kernel⟩
theorem mv_L_39 : cn_mv "ChunkedNodesLaw" 39 mi_X_chunk 8 5 := ⟨Or.inl (cn_inT 377 (by decide +kernel) (by decide +kernel)), (cn_inT 378 (by decide +kernel) (by decide +kernel)), (cn_inT 379 (by decide +kernel) (by decide +kernel)), mo_X_chunk, by decide +kernel, by decide +kernel⟩
theorem mv_L_43 : cn_mv "ChunkedNodesLaw" 43 mi_M_chunk 9 5 := ⟨Or.inl (cn_inT 742 (by decide +kernel) (by decide +kernel)), (cn_inT 743 (by decide +kernel) (by decide +kernel)), (cn_inT 744 (by decide +kernel) (by decide +kernel)), mo_M_chunk, by decide +kernel, by decide +kernel⟩
theorem mv_L_44 : cn_mv "ChunkedNodesLaw" 44 mi_X_part 8 0 := ⟨Or.inl (cn_inT 533 (by decide +kernel) (by decide +kernel)), (cn_inT 534 (by decide +kernel) (by decide +kernel)), (cn_inT 535 (by decide +kernel) (by decide +kernel)), mo_X_part, by decide +kernel, by decide +kernel⟩
theorem mv_L_48 : cn_mv "ChunkedNodesLaw" 48 mi_M_part 9 0 := ⟨Or.inl (cn_inT 842 (by decide +kernel) (by decide +kernel)), (cn_inT 843 (by decide +kernel) (by decide +kernel)), (cn_inT 844 (by decide +kernel) (by decide +kernel)), mo_M_part, by decide +kernel, by decide +kernel⟩
theorem mv_L_49 : cn_mv "ChunkedNodesLaw" 49 mi_X_answerLength 8 0 := ⟨Or.inl (cn_inT 537 (by decide +kernel) (by decide +kernel)), (cn_inT 538 (by decide +kernel) (by decide +kernel)), (cn_inT 539 (by decide +kernel) (by decide +kernel)), mo_X_answerLength, by decide +kernel, by decide +kernel⟩
theorem mv_L_52 : cn_mv "ChunkedNodesLaw" 52 mi_M_answerLength 9 0 := ⟨Or.inl (cn_inT 846 (by decide +kernel) (by decide +kernel)), (cn_inT 847 (by decide +kernel) (by decide +kernel)), (cn_inT 848 (by decide +kernel) (by decide +kernel)), mo_M_answerLength, by decide +kernel, by decide +kernel⟩
theorem mv_L_53 : cn_mv "ChunkedNodesLaw" 53 mi_X_answer 8 1 := ⟨Or.inl (cn_inT 541 (by decide +kernel) (by decide +kernel)), (cn_inT 542 (by decide +kernel) (by decide +kernel)), (cn_inT 543 (by decide +kernel) (by decide +kernel)), mo_X_answer, by decide +kernel, by decide +kernel⟩
theorem mv_L_56 : cn_mv "ChunkedNodesLaw" 56 mi_M_answer 9 1 := ⟨Or.inl (cn_inT 850 (by decide +kernel) (by decide +kernel)), (cn_inT 851 (by decide +kernel) (by decide +kernel)), (cn_inT 852 (by decide +kernel) (by decide +kernel)), mo_M_answer, by decide +kernel, by decide +kernel⟩
theorem mv_L_57 : cn_mv "ChunkedNodesLaw" 57 mi_X_request 8 0 := ⟨Or.inl (cn_inT 545 (by decide +kernel) (by decide +kernel)), (cn_inT 546 (by decide +kernel) (by decide +kernel)), (cn_inT 547 (by decide +kernel) (by decide +kernel)), mo_X_request, by decide +kernel, by decide +kernel⟩
theorem mv_L_60 : cn_mv "ChunkedNodesLaw" 60 mi_M_request 9 0 := ⟨Or.inl (cn_inT 854 (by decide +kernel) (by decide +kernel)), (cn_inT 855 (by decide +kernel) (by decide +kernel)), (cn_inT 856 (by decide +kernel) (by decide +kernel)), mo_M_request, by decide +kernel, by decide +kernel⟩
theorem mv_L_61 : cn_mv "ChunkedNodesLaw" 61 mi_X_queue 8 1 := ⟨Or.inl (cn_inT 549 (by decide +kernel) (by decide +kernel)), (cn_inT 550 (by decide +kernel) (by decide +kernel)), (cn_inT 551 (by decide +kernel) (by decide +kernel)), mo_X_queue, by decide +kernel, by decide +kernel⟩
theorem mv_L_64 : cn_mv "ChunkedNodesLaw" 64 mi_M_queue 9 1 := ⟨Or.inl (cn_inT 858 (by decide +kernel) (by decide +kernel)), (cn_inT 859 (by decide +kernel) (by decide +kernel)), (cn_inT 860 (by decide +kernel) (by decide +kernel)), mo_M_queue, by decide +kernel, by decide +kernel⟩
theorem mv_L_65 : cn_mv "ChunkedNodesLaw" 65 mi_X_parcels 8 0 := ⟨Or.inl (cn_inT 553 (by decide +kernel) (by decide +kernel)), (cn_inT 554 (by decide +kernel) (by decide +kernel)), (cn_inT 555 (by decide +kernel) (by decide +kernel)), mo_X_parcels, by decide +kernel, by decide +kernel⟩
theorem mv_L_68 : cn_mv "ChunkedNodesLaw" 68 mi_M_parcels 9 0 := ⟨Or.inl (cn_inT 862 (by decide +kernel) (by decide +kernel)), (cn_inT 863 (by decide +kernel) (by decide +kernel)), (cn_inT 864 (by decide +kernel) (by decide +kernel)), mo_M_parcels, by decide +kernel, by decide +kernel⟩
theorem mv_L_69 : cn_mv "ChunkedNodesLaw" 69 mi_X_parcel 8 1 := ⟨Or.inl (cn_inT 557 (by decide +kernel) (by decide +kernel)), (cn_inT 558 (by decide +kernel) (by decide +kernel)), (cn_inT 559 (by decide +kernel) (by decide +kernel)), mo_X_parcel, by decide +kernel, by decide +kernel⟩
theorem mv_L_72 : cn_mv "ChunkedNodesLaw" 72 mi_M_parcel 9 1 := ⟨Or.inl (cn_inT 866 (by decide +kernel) (by decide +kernel)), (cn_inT 867 (by decide +kernel) (by decide +kernel)), (cn_inT 868 (by decide +kernel) (by decide +kernel)), mo_M_parcel, by decide +kernel, by decide +kernel⟩
theorem mv_L_73 : cn_mv "ChunkedNodesLaw" 73 mi_X_size 8 1 := ⟨Or.inl (cn_inT 561 (by decide +kernel) (by decide +kernel)), (cn_inT 562 (by decide +kernel) (by decide +kernel)), (cn_inT 563 (by decide +kernel) (by decide +kernel)), mo_X_size, by decide +kernel, by decide +kernel⟩
theorem mv_L_76 : cn_mv "ChunkedNodesLaw" 76 mi_M_size 9 1 := ⟨Or.inl (cn_inT 870 (by decide +kernel) (by decide +kernel)), (cn_inT 871 (by decide +kernel) (by decide +kernel)), (cn_inT 872 (by decide +kernel) (by decide +kernel)), mo_M_size, by decide +kernel, by decide +kernel⟩
theorem mv_M_97 : cn_mv "ChunkedNodesModel" 97 mi_M_isNode 9 1 := ⟨Or.inl (cn_inT 700 (by decide +kernel) (by decide +kernel)), (cn_inT 702 (by decide +kernel) (by decide +kernel)), (cn_inT 25 (by decide +kernel) (by decide +kernel)), mo_M_isNode, by decide +kernel, by decide +kernel⟩
theorem mv_M_101 : cn_mv "ChunkedNodesModel" 101 mi_M_make 9 3 := ⟨Or.inl (cn_inT 696 (by decide +kernel) (by decide +kernel)), (cn_inT 698 (by decide +kernel) (by decide +kernel)), (cn_inT 24 (by decide +kernel) (by decide +kernel)), mo_M_make, by decide +kernel, by decide +kernel⟩
theorem mv_M_109 : cn_mv "ChunkedNodesModel" 109 mi_M_startNumber 9 3 := ⟨Or.inl (cn_inT 709 (by decide +kernel) (by decide +kernel)), (cn_inT 711 (by decide +kernel) (by decide +kernel)), (cn_inT 26 (by decide +kernel) (by decide +kernel)), mo_M_startNumber, by decide +kernel, by decide +kernel⟩
theorem mv_M_113 : cn_mv "ChunkedNodesModel" 113 mi_M_copyNotice 9 2 := ⟨Or.inl (cn_inT 734 (by decide +kernel) (by decide +kernel)), (cn_inT 736 (by decide +kernel) (by decide +kernel)), (cn_inT 31 (by decide +kernel) (by decide +kernel)), mo_M_copyNotice, by decide +kernel, by decide +kernel⟩
theorem mv_M_117 : cn_mv "ChunkedNodesModel" 117 mi_M_dropFirst 9 1 := ⟨Or.inl (cn_inT 730 (by decide +kernel) (by decide +kernel)), (cn_inT 732 (by decide +kernel) (by decide +kernel)), (cn_inT 30 (by decide +kernel) (by decide +kernel)), mo_M_dropFirst, by decide +kernel, by decide +kernel⟩
theorem mv_M_121 : cn_mv "ChunkedNodesModel" 121 mi_M_append 9 3 := ⟨Or.inl (cn_inT 738 (by decide +kernel) (by decide +kernel)), (cn_inT 740 (by decide +kernel) (by decide +kernel)), (cn_inT 32 (by decide +kernel) (by decide +kernel)), mo_M_append, by decide +kernel, by decide +kernel⟩
theorem mv_M_128 : cn_mv "ChunkedNodesModel" 128 mi_M_tell 9 2 := ⟨Or.inl (cn_inT 726 (by decide +kernel) (by decide +kernel)), (cn_inT 728 (by decide +kernel) (by decide +kernel)), (cn_inT 29 (by decide +kernel) (by decide +kernel)), mo_M_tell, by decide +kernel, by decide +kernel⟩
theorem mv_M_131 : cn_mv "ChunkedNodesModel" 131 mi_M_isVariable 9 1 := ⟨Or.inl (cn_inT 718 (by decide +kernel) (by decide +kernel)), (cn_inT 720 (by decide +kernel) (by decide +kernel)), (cn_inT 27 (by decide +kernel) (by decide +kernel)), mo_M_isVariable, by decide +kernel, by decide +kernel⟩
theorem mv_M_134 : cn_mv "ChunkedNodesModel" 134 mi_M_become 9 1 := ⟨Or.inl (cn_inT 722 (by decide +kernel) (by decide +kernel)), (cn_inT 724 (by decide +kernel) (by decide +kernel)), (cn_inT 28 (by decide +kernel) (by decide +kernel)), mo_M_become, by decide +kernel, by decide +kernel⟩
theorem mv_M_146 : cn_mv "ChunkedNodesModel" 146 mi_M_follows 9 1 := ⟨Or.inl (cn_inT 746 (by decide +kernel) (by decide +kernel)), (cn_inT 748 (by decide +kernel) (by decide +kernel)), (cn_inT 33 (by decide +kernel) (by decide +kernel)), mo_M_follows, by decide +kernel, by decide +kernel⟩
theorem mv_M_155 : cn_mv "ChunkedNodesModel" 155 mi_M_reply 9 0 := ⟨Or.inl (cn_inT 750 (by decide +kernel) (by decide +kernel)), (cn_inT 752 (by decide +kernel) (by decide +kernel)), (cn_inT 34 (by decide +kernel) (by decide +kernel)), mo_M_reply, by decide +kernel, by decide +kernel⟩
theorem mv_M_164 : cn_mv "ChunkedNodesModel" 164 mi_M_next 9 0 := ⟨Or.inl (cn_inT 762 (by decide +kernel) (by decide +kernel)), (cn_inT 764 (by decide +kernel) (by decide +kernel)), (cn_inT 37 (by decide +kernel) (by decide +kernel)), mo_M_next, by decide +kernel, by decide +kernel⟩
theorem mv_M_171 : cn_mv "ChunkedNodesModel" 171 mi_M_number 9 1 := ⟨Or.inl (cn_inT 774 (by decide +kernel) (by decide +kernel)), (cn_inT 776 (by decide +kernel) (by decide +kernel)), (cn_inT 40 (by decide +kernel) (by decide +kernel)), mo_M_number, by decide +kernel, by decide +kernel⟩
theorem mv_M_175 : cn_mv "ChunkedNodesModel" 175 mi_M_put 9 1 := ⟨Or.inl (cn_inT 790 (by decide +kernel) (by decide +kernel)), (cn_inT 792 (by decide +kernel) (by decide +kernel)), (cn_inT 44 (by decide +kernel) (by decide +kernel)), mo_M_put, by decide +kernel, by decide +kernel⟩
theorem mv_M_178 : cn_mv "ChunkedNodesModel" 178 mi_M_putNumber 9 1 := ⟨Or.inl (cn_inT 794 (by decide +kernel) (by decide +kernel)), (cn_inT 796 (by decide +kernel) (by decide +kernel)), (cn_inT 45 (by decide +kernel) (by decide +kernel)), mo_M_putNumber, by decide +kernel, by decide +kernel⟩
theorem mv_M_181 : cn_mv "ChunkedNodesModel" 181 mi_M_readPlain 9 1 := ⟨Or.inl (cn_inT 798 (by decide +kernel) (by decide +kernel)), (cn_inT 800 (by decide +kernel) (by decide +kernel)), (cn_inT 46 (by decide +kernel) (by decide +kernel)), mo_M_readPlain, by decide +kernel, by decide +kernel⟩
theorem mv_M_184 : cn_mv "ChunkedNodesModel" 184 mi_M_say 9 1 := ⟨Or.inl (cn_inT 758 (by decide +kernel) (by decide +kernel)), (cn_inT 760 (by decide +kernel) (by decide +kernel)), (cn_inT 36 (by decide +kernel) (by decide +kernel)), mo_M_say, by decide +kernel, by decide +kernel⟩
theorem mv_M_187 : cn_mv "ChunkedNodesModel" 187 mi_M_code 9 1 := ⟨Or.inl (cn_inT 754 (by decide +kernel) (by decide +kernel)), (cn_inT 756 (by decide +kernel) (by decide +kernel)), (cn_inT 35 (by decide +kernel) (by decide +kernel)), mo_M_code, by decide +kernel, by decide +kernel⟩
theorem mv_M_190 : cn_mv "ChunkedNodesModel" 190 mi_M_read 9 0 := ⟨Or.inl (cn_inT 766 (by decide +kernel) (by decide +kernel)), (cn_inT 768 (by decide +kernel) (by decide +kernel)), (cn_inT 38 (by decide +kernel) (by decide +kernel)), mo_M_read, by decide +kernel, by decide +kernel⟩
theorem mv_M_193 : cn_mv "ChunkedNodesModel" 193 mi_M_write 9 0 := ⟨Or.inl (cn_inT 782 (by decide +kernel) (by decide +kernel)), (cn_inT 784 (by decide +kernel) (by decide +kernel)), (cn_inT 42 (by decide +kernel) (by decide +kernel)), mo_M_write, by decide +kernel, by decide +kernel⟩
theorem mv_M_196 : cn_mv "ChunkedNodesModel" 196 mi_M_browse 9 0 := ⟨Or.inl (cn_inT 802 (by decide +kernel) (by decide +kernel)), (cn_inT 804 (by decide +kernel) (by decide +kernel)), (cn_inT 47 (by decide +kernel) (by decide +kernel)), mo_M_browse, by decide +kernel, by decide +kernel⟩
theorem mv_M_199 : cn_mv "ChunkedNodesModel" 199 mi_M_watch 9 0 := ⟨Or.inl (cn_inT 806 (by decide +kernel) (by decide +kernel)), (cn_inT 808 (by decide +kernel) (by decide +kernel)), (cn_inT 48 (by decide +kernel) (by decide +kernel)), mo_M_watch, by decide +kernel, by decide +kernel⟩
theorem mv_M_202 : cn_mv "ChunkedNodesModel" 202 mi_M_publish 9 0 := ⟨Or.inl (cn_inT 810 (by decide +kernel) (by decide +kernel)), (cn_inT 812 (by decide +kernel) (by decide +kernel)), (cn_inT 49 (by decide +kernel) (by decide +kernel)), mo_M_publish, by decide +kernel, by decide +kernel⟩
theorem mv_M_205 : cn_mv "ChunkedNodesModel" 205 mi_M_again 9 0 := ⟨Or.inl (cn_inT 838 (by decide +kernel) (by decide +kernel)), (cn_inT 840 (by decide +kernel) (by decide +kernel)), (cn_inT 56 (by decide +kernel) (by decide +kernel)), mo_M_again, by decide +kernel, by decide +kernel⟩
theorem mv_M_208 : cn_mv "ChunkedNodesModel" 208 mi_M_readName 9 0 := ⟨Or.inl (cn_inT 770 (by decide +kernel) (by decide +kernel)), (cn_inT 772 (by decide +kernel) (by decide +kernel)), (cn_inT 39 (by decide +kernel) (by decide +kernel)), mo_M_readName, by decide +kernel, by decide +kernel⟩
theorem mv_M_211 : cn_mv "ChunkedNodesModel" 211 mi_M_whole 9 0 := ⟨Or.inl (cn_inT 778 (by decide +kernel) (by decide +kernel)), (cn_inT 780 (by decide +kernel) (by decide +kernel)), (cn_inT 41 (by decide +kernel) (by decide +kernel)), mo_M_whole, by decide +kernel, by decide +kernel⟩
theorem mv_M_215 : cn_mv "ChunkedNodesModel" 215 mi_M_readValue 9 0 := ⟨Or.inl (cn_inT 786 (by decide +kernel) (by decide +kernel)), (cn_inT 788 (by decide +kernel) (by decide +kernel)), (cn_inT 43 (by decide +kernel) (by decide +kernel)), mo_M_readValue, by decide +kernel, by decide +kernel⟩
theorem mv_M_218 : cn_mv "ChunkedNodesModel" 218 mi_M_find 9 1 := ⟨Or.inl (cn_inT 814 (by decide +kernel) (by decide +kernel)), (cn_inT 816 (by decide +kernel) (by decide +kernel)), (cn_inT 50 (by decide +kernel) (by decide +kernel)), mo_M_find, by decide +kernel, by decide +kernel⟩
theorem mv_M_221 : cn_mv "ChunkedNodesModel" 221 mi_M_dropParcel 9 1 := ⟨Or.inl (cn_inT 818 (by decide +kernel) (by decide +kernel)), (cn_inT 820 (by decide +kernel) (by decide +kernel)), (cn_inT 51 (by decide +kernel) (by decide +kernel)), mo_M_dropParcel, by decide +kernel, by decide +kernel⟩
theorem mv_M_224 : cn_mv "ChunkedNodesModel" 224 mi_M_busy 9 0 := ⟨Or.inl (cn_inT 822 (by decide +kernel) (by decide +kernel)), (cn_inT 824 (by decide +kernel) (by decide +kernel)), (cn_inT 52 (by decide +kernel) (by decide +kernel)), mo_M_busy, by decide +kernel, by decide +kernel⟩
theorem mv_M_227 : cn_mv "ChunkedNodesModel" 227 mi_M_sayNumber 9 1 := ⟨Or.inl (cn_inT 826 (by decide +kernel) (by decide +kernel)), (cn_inT 828 (by decide +kernel) (by decide +kernel)), (cn_inT 53 (by decide +kernel) (by decide +kernel)), mo_M_sayNumber, by decide +kernel, by decide +kernel⟩
theorem mv_M_230 : cn_mv "ChunkedNodesModel" 230 mi_M_sayNotice 9 1 := ⟨Or.inl (cn_inT 830 (by decide +kernel) (by decide +kernel)), (cn_inT 832 (by decide +kernel) (by decide +kernel)), (cn_inT 54 (by decide +kernel) (by decide +kernel)), mo_M_sayNotice, by decide +kernel, by decide +kernel⟩
theorem mv_M_233 : cn_mv "ChunkedNodesModel" 233 mi_M_keep 9 0 := ⟨Or.inl (cn_inT 834 (by decide +kernel) (by decide +kernel)), (cn_inT 836 (by decide +kernel) (by decide +kernel)), (cn_inT 55 (by decide +kernel) (by decide +kernel)), mo_M_keep, by decide +kernel, by decide +kernel⟩
theorem mn_X_23 : cn_mi "ChunkedNodes" 23 mi_Sf_init 0 := ⟨Or.inl (cn_inT 84 (by decide +kernel) (by decide +kernel)), (cn_inT 85 (by decide +kernel) (by decide +kernel)), rfl, mo_Sf_init, by decide +kernel, rfl⟩
theorem mn_X_30 : cn_mi "ChunkedNodes" 30 mi_Ch_init 0 := ⟨Or.inr ⟨"ChunkedNodes", (cn_inN 137 (by decide +kernel) (by decide +kernel))⟩, (cn_inT 138 (by decide +kernel) (by decide +kernel)), rfl, mo_Ch_init, by decide +kernel, rfl⟩
theorem mn_X_37 : cn_mi "ChunkedNodes" 37 mi_By_init 1 := ⟨Or.inl (cn_inT 187 (by decide +kernel) (by decide +kernel)), (cn_inT 98 (by decide +kernel) (by decide +kernel)), rfl, mo_By_init, by decide +kernel, rfl⟩
theorem mn_X_51 : cn_mi "ChunkedNodes" 51 mi_No_init 0 := ⟨Or.inr ⟨"ChunkedNodes", (cn_inN 189 (by decide +kernel) (by decide +kernel))⟩, (cn_inT 190 (by decide +kernel) (by decide +kernel)), rfl, mo_No_init, by decide +kernel, rfl⟩
theorem mn_X_52 : cn_mi "ChunkedNodes" 52 mi_It_init 0 := ⟨Or.inl (cn_inT 210 (by decide +kernel) (by decide +kernel)), (cn_inT 211 (by decide +kernel) (by decide +kernel)), rfl, mo_It_init, by decide +kernel, rfl⟩
theorem mn_Ch_11 : cn_mi "ChunkedNodes$Channel" 11 mi_Me_init 0 := ⟨Or.inr ⟨"ChunkedNodes", (cn_inN 143 (by decide +kernel) (by decide +kernel))⟩, (cn_inT 144 (by decide +kernel) (by decide +kernel)), rfl, mo_Me_init, by decide +kernel, rfl⟩
theorem mn_It_21 : cn_mi "ChunkedNodes$Item" 21 mi_Nt_init 0 := ⟨Or.inr ⟨"ChunkedNodes", (cn_inN 217 (by decide +kernel) (by decide +kernel))⟩, (cn_inT 218 (by decide +kernel) (by decide +kernel)), rfl, mo_Nt_init, by decide +kernel, rfl⟩
theorem mn_Me_11 : cn_mi "ChunkedNodes$Message" 11 mi_By_init 1 := ⟨Or.inl (cn_inT 148 (by decide +kernel) (by decide +kernel)), (cn_inT 98 (by decide +kernel) (by decide +kernel)), rfl, mo_By_init, by decide +kernel, rfl⟩
theorem mn_No_11 : cn_mi "ChunkedNodes$Node" 11 mi_By_init 1 := ⟨Or.inl (cn_inT 194 (by decide +kernel) (by decide +kernel)), (cn_inT 98 (by decide +kernel) (by decide +kernel)), rfl, mo_By_init, by decide +kernel, rfl⟩
theorem mn_Nt_11 : cn_mi "ChunkedNodes$Notice" 11 mi_By_init 1 := ⟨Or.inl (cn_inT 222 (by decide +kernel) (by decide +kernel)), (cn_inT 98 (by decide +kernel) (by decide +kernel)), rfl, mo_By_init, by decide +kernel, rfl⟩
theorem mn_Pa_11 : cn_mi "ChunkedNodes$Parcel" 11 mi_By_init 1 := ⟨Or.inl (cn_inT 97 (by decide +kernel) (by decide +kernel)), (cn_inT 98 (by decide +kernel) (by decide +kernel)), rfl, mo_By_init, by decide +kernel, rfl⟩
theorem mn_Sf_17 : cn_mi "ChunkedNodes$Shelf" 17 mi_Pa_init 0 := ⟨Or.inr ⟨"ChunkedNodes", (cn_inN 91 (by decide +kernel) (by decide +kernel))⟩, (cn_inT 92 (by decide +kernel) (by decide +kernel)), rfl, mo_Pa_init, by decide +kernel, rfl⟩
theorem mn_L_9 : cn_mi "ChunkedNodesLaw" 9 mi_X_init 0 := ⟨Or.inl (cn_inT 72 (by decide +kernel) (by decide +kernel)), (cn_inT 73 (by decide +kernel) (by decide +kernel)), rfl, mo_X_init, by decide +kernel, rfl⟩
theorem mn_L_12 : cn_mi "ChunkedNodesLaw" 12 mi_M_init 0 := ⟨Or.inl (cn_inT 567 (by decide +kernel) (by decide +kernel)), (cn_inT 568 (by decide +kernel) (by decide +kernel)), rfl, mo_M_init, by decide +kernel, rfl⟩
theorem ms_X_82 : cn_ms "ChunkedNodes" 82 mi_X_isVariableType 1 := ⟨(cn_inT 336 (by decide +kernel) (by decide +kernel)), (cn_inT 337 (by decide +kernel) (by decide +kernel)), mo_X_isVariableType, by decide +kernel⟩
theorem nw_X_9 : cn_nw "ChunkedNodes" 9 4 := ⟨_, _, _, cn_ok_No, (cn_inT 78 (by decide +kernel) (by decide +kernel)), (cn_inT 188 (by decide +kernel) (by decide +kernel)), (cn_inT 64 (by decide +kernel) (by decide +kernel))⟩
theorem nw_X_15 : cn_nw "ChunkedNodes" 15 2 := ⟨_, _, _, cn_ok_It, (cn_inT 80 (by decide +kernel) (by decide +kernel)), (cn_inT 209 (by decide +kernel) (by decide +kernel)), (cn_inT 65 (by decide +kernel) (by decide +kernel))⟩
theorem nw_X_21 : cn_nw "ChunkedNodes" 21 7 := ⟨_, _, _, cn_ok_Sf, (cn_inT 82 (by decide +kernel) (by decide +kernel)), (cn_inT 83 (by decide +kernel) (by decide +kernel)), (cn_inT 59 (by decide +kernel) (by decide +kernel))⟩
theorem nw_X_28 : cn_nw "ChunkedNodes" 28 1 := ⟨_, _, _, cn_ok_Ch, (cn_inT 135 (by decide +kernel) (by decide +kernel)), (cn_inT 136 (by decide +kernel) (by decide +kernel)), (cn_inT 62 (by decide +kernel) (by decide +kernel))⟩
theorem nw_X_35 : cn_nw "ChunkedNodes" 35 0 := ⟨_, _, _, cn_ok_By, (cn_inT 186 (by decide +kernel) (by decide +kernel)), (cn_inT 96 (by decide +kernel) (by decide +kernel)), (cn_inT 61 (by decide +kernel) (by decide +kernel))⟩
theorem nw_Ch_9 : cn_nw "ChunkedNodes$Channel" 9 3 := ⟨_, _, _, cn_ok_Me, (cn_inT 141 (by decide +kernel) (by decide +kernel)), (cn_inT 142 (by decide +kernel) (by decide +kernel)), (cn_inT 63 (by decide +kernel) (by decide +kernel))⟩
theorem nw_It_9 : cn_nw "ChunkedNodes$Item" 9 5 := ⟨_, _, _, cn_ok_Nt, (cn_inT 214 (by decide +kernel) (by decide +kernel)), (cn_inT 216 (by decide +kernel) (by decide +kernel)), (cn_inT 66 (by decide +kernel) (by decide +kernel))⟩
theorem nw_Me_9 : cn_nw "ChunkedNodes$Message" 9 0 := ⟨_, _, _, cn_ok_By, (cn_inT 147 (by decide +kernel) (by decide +kernel)), (cn_inT 96 (by decide +kernel) (by decide +kernel)), (cn_inT 61 (by decide +kernel) (by decide +kernel))⟩
theorem nw_No_9 : cn_nw "ChunkedNodes$Node" 9 0 := ⟨_, _, _, cn_ok_By, (cn_inT 193 (by decide +kernel) (by decide +kernel)), (cn_inT 96 (by decide +kernel) (by decide +kernel)), (cn_inT 61 (by decide +kernel) (by decide +kernel))⟩
theorem nw_Nt_9 : cn_nw "ChunkedNodes$Notice" 9 0 := ⟨_, _, _, cn_ok_By, (cn_inT 221 (by decide +kernel) (by decide +kernel)), (cn_inT 96 (by decide +kernel) (by decide +kernel)), (cn_inT 61 (by decide +kernel) (by decide +kernel))⟩
theorem nw_Pa_9 : cn_nw "ChunkedNodes$Parcel" 9 0 := ⟨_, _, _, cn_ok_By, (cn_inT 95 (by decide +kernel) (by decide +kernel)), (cn_inT 96 (by decide +kernel) (by decide +kernel)), (cn_inT 61 (by decide +kernel) (by decide +kernel))⟩
theorem nw_Sf_9 : cn_nw "ChunkedNodes$Shelf" 9 6 := ⟨_, _, _, cn_ok_Pa, (cn_inT 88 (by decide +kernel) (by decide +kernel)), (cn_inT 90 (by decide +kernel) (by decide +kernel)), (cn_inT 60 (by decide +kernel) (by decide +kernel))⟩
theorem nw_L_7 : cn_nw "ChunkedNodesLaw" 7 8 := ⟨_, _, _, cn_ok_X, (cn_inT 70 (by decide +kernel) (by decide +kernel)), (cn_inT 71 (by decide +kernel) (by decide +kernel)), (cn_inT 58 (by decide +kernel) (by decide +kernel))⟩
theorem nw_L_10 : cn_nw "ChunkedNodesLaw" 10 9 := ⟨_, _, _, cn_ok_M, (cn_inT 565 (by decide +kernel) (by decide +kernel)), (cn_inT 566 (by decide +kernel) (by decide +kernel)), (cn_inT 67 (by decide +kernel) (by decide +kernel))⟩
end
section
theorem d_By_init_0 : decode mi_By_init.2.1 0 = .ok (.aload_n 0, 1) := by decide +kernel
theorem d_By_init_1 : decode mi_By_init.2.1 1 = .ok (.invokespecial 1, 3) := by decide +kernel
theorem d_By_init_4 : decode mi_By_init.2.1 4 = .ok (.aload_n 0, 1) := by decide +kernel
theorem d_By_init_5 : decode mi_By_init.2.1 5 = .ok (.iload_n 1, 1) := by decide +kernel
theorem d_By_init_6 : decode mi_By_init.2.1 6 = .ok (.newarray .byte, 2) := by decide +kernel
theorem d_By_init_8 : decode mi_By_init.2.1 8 = .ok (.putfield 7, 3) := by decide +kernel
theorem d_By_init_11 : decode mi_By_init.2.1 11 = .ok (.return_, 1) := by decide +kernel
theorem d_Ch_init_0 : decode mi_Ch_init.2.1 0 = .ok (.aload_n 0, 1) := by decide +kernel
theorem d_Ch_init_1 : decode mi_Ch_init.2.1 1 = .ok (.invokespecial 3, 3) := by decide +kernel
theorem d_Ch_init_4 : decode mi_Ch_init.2.1 4 = .ok (.aload_n 0, 1) := by decide +kernel
theorem d_Ch_init_5 : decode mi_Ch_init.2.1 5 = .ok (.new 9, 3) := by decide +kernel
theorem d_Ch_init_8 : decode mi_Ch_init.2.1 8 = .ok (.dup, 1) := by decide +kernel
theorem d_Ch_init_9 : decode mi_Ch_init.2.1 9 = .ok (.invokespecial 11, 3) := by decide +kernel
theorem d_Ch_init_12 : decode mi_Ch_init.2.1 12 = .ok (.putfield 12, 3) := by decide +kernel
theorem d_Ch_init_15 : decode mi_Ch_init.2.1 15 = .ok (.aload_n 0, 1) := by decide +kernel
theorem d_Ch_init_16 : decode mi_Ch_init.2.1 16 = .ok (.iconst 1, 1) := by decide +kernel
theorem d_Ch_init_17 : decode mi_Ch_init.2.1 17 = .ok (.putfield 18, 3) := by decide +kernel
theorem d_Ch_init_20 : decode mi_Ch_init.2.1 20 = .ok (.return_, 1) := by decide +kernel
theorem d_Me_init_0 : decode mi_Me_init.2.1 0 = .ok (.aload_n 0, 1) := by decide +kernel
theorem d_Me_init_1 : decode mi_Me_init.2.1 1 = .ok (.invokespecial 3, 3) := by decide +kernel
theorem d_Me_init_4 : decode mi_Me_init.2.1 4 = .ok (.aload_n 0, 1) := by decide +kernel
theorem d_Me_init_5 : decode mi_Me_init.2.1 5 = .ok (.new 9, 3) := by decide +kernel
theorem d_Me_init_8 : decode mi_Me_init.2.1 8 = .ok (.dup, 1) := by decide +kernel
theorem d_Me_init_9 : decode mi_Me_init.2.1 9 = .ok (.bipush 64, 2) := by decide +kernel
theorem d_Me_init_11 : decode mi_Me_init.2.1 11 = .ok (.invokespecial 11, 3) := by decide +kernel
theorem d_Me_init_14 : decode mi_Me_init.2.1 14 = .ok (.putfield 14, 3) := by decide +kernel
theorem d_Me_init_17 : decode mi_Me_init.2.1 17 = .ok (.return_, 1) := by decide +kernel
theorem d_It_init_0 : decode mi_It_init.2.1 0 = .ok (.aload_n 0, 1) := by decide +kernel
theorem d_It_init_1 : decode mi_It_init.2.1 1 = .ok (.invokespecial 3, 3) := by decide +kernel
theorem d_It_init_4 : decode mi_It_init.2.1 4 = .ok (.aload_n 0, 1) := by decide +kernel
theorem d_It_init_5 : decode mi_It_init.2.1 5 = .ok (.iconst 4, 1) := by decide +kernel
theorem d_It_init_6 : decode mi_It_init.2.1 6 = .ok (.anewarray 9, 3) := by decide +kernel
theorem d_It_init_9 : decode mi_It_init.2.1 9 = .ok (.putfield 11, 3) := by decide +kernel
theorem d_It_init_12 : decode mi_It_init.2.1 12 = .ok (.aload_n 0, 1) := by decide +kernel
theorem d_It_init_13 : decode mi_It_init.2.1 13 = .ok (.iconst 1, 1) := by decide +kernel
theorem d_It_init_14 : decode mi_It_init.2.1 14 = .ok (.putfield 17, 3) := by decide +kernel
theorem d_It_init_17 : decode mi_It_init.2.1 17 = .ok (.iconst 0, 1) := by decide +kernel
theorem d_It_init_18 : decode mi_It_init.2.1 18 = .ok (.istore_n 1, 1) := by decide +kernel
theorem d_It_init_19 : decode mi_It_init.2.1 19 = .ok (.iload_n 1, 1) := by decide +kernel
theorem d_It_init_20 : decode mi_It_init.2.1 20 = .ok (.iconst 4, 1) := by decide +kernel
theorem d_It_init_21 : decode mi_It_init.2.1 21 = .ok (.if_icmp .ge 22, 3) := by decide +kernel
theorem d_It_init_24 : decode mi_It_init.2.1 24 = .ok (.aload_n 0, 1) := by decide +kernel
theorem d_It_init_25 : decode mi_It_init.2.1 25 = .ok (.getfield 11, 3) := by decide +kernel
theorem d_It_init_28 : decode mi_It_init.2.1 28 = .ok (.iload_n 1, 1) := by decide +kernel
theorem d_It_init_29 : decode mi_It_init.2.1 29 = .ok (.new 9, 3) := by decide +kernel
theorem d_It_init_32 : decode mi_It_init.2.1 32 = .ok (.dup, 1) := by decide +kernel
theorem d_It_init_33 : decode mi_It_init.2.1 33 = .ok (.invokespecial 21, 3) := by decide +kernel
theorem d_It_init_36 : decode mi_It_init.2.1 36 = .ok (.aastore, 1) := by decide +kernel
theorem d_It_init_37 : decode mi_It_init.2.1 37 = .ok (.iinc 1 1, 3) := by decide +kernel
theorem d_It_init_40 : decode mi_It_init.2.1 40 = .ok (.goto (-21), 3) := by decide +kernel
theorem d_It_init_43 : decode mi_It_init.2.1 43 = .ok (.return_, 1) := by decide +kernel
theorem d_By_add_0 : decode mi_By_add.2.1 0 = .ok (.aload_n 0, 1) := by decide +kernel
theorem d_By_add_1 : decode mi_By_add.2.1 1 = .ok (.getfield 13, 3) := by decide +kernel
theorem d_By_add_4 : decode mi_By_add.2.1 4 = .ok (.aload_n 0, 1) := by decide +kernel
theorem d_By_add_5 : decode mi_By_add.2.1 5 = .ok (.getfield 7, 3) := by decide +kernel
theorem d_By_add_8 : decode mi_By_add.2.1 8 = .ok (.arraylength, 1) := by decide +kernel
theorem d_By_add_9 : decode mi_By_add.2.1 9 = .ok (.if_icmp .ge 24, 3) := by decide +kernel
theorem d_By_add_12 : decode mi_By_add.2.1 12 = .ok (.aload_n 0, 1) := by decide +kernel
theorem d_By_add_13 : decode mi_By_add.2.1 13 = .ok (.getfield 7, 3) := by decide +kernel
theorem d_By_add_16 : decode mi_By_add.2.1 16 = .ok (.aload_n 0, 1) := by decide +kernel
theorem d_By_add_17 : decode mi_By_add.2.1 17 = .ok (.getfield 13, 3) := by decide +kernel
theorem d_By_add_20 : decode mi_By_add.2.1 20 = .ok (.iload_n 1, 1) := by decide +kernel
theorem d_By_add_21 : decode mi_By_add.2.1 21 = .ok (.i2b, 1) := by decide +kernel
theorem d_By_add_22 : decode mi_By_add.2.1 22 = .ok (.bastore, 1) := by decide +kernel
theorem d_By_add_23 : decode mi_By_add.2.1 23 = .ok (.aload_n 0, 1) := by decide +kernel
theorem d_By_add_24 : decode mi_By_add.2.1 24 = .ok (.dup, 1) := by decide +kernel
theorem d_By_add_25 : decode mi_By_add.2.1 25 = .ok (.getfield 13, 3) := by decide +kernel
theorem d_By_add_28 : decode mi_By_add.2.1 28 = .ok (.iconst 1, 1) := by decide +kernel
theorem d_By_add_29 : decode mi_By_add.2.1 29 = .ok (.iadd, 1) := by decide +kernel
theorem d_By_add_30 : decode mi_By_add.2.1 30 = .ok (.putfield 13, 3) := by decide +kernel
theorem d_By_add_33 : decode mi_By_add.2.1 33 = .ok (.return_, 1) := by decide +kernel
theorem d_By_addNumber_0 : decode mi_By_addNumber.2.1 0 = .ok (.iconst 0, 1) := by decide +kernel
theorem d_By_addNumber_1 : decode mi_By_addNumber.2.1 1 = .ok (.istore 4, 2) := by decide +kernel
theorem d_By_addNumber_3 : decode mi_By_addNumber.2.1 3 = .ok (.iload 4, 2) := by decide +kernel
theorem d_By_addNumber_5 : decode mi_By_addNumber.2.1 5 = .ok (.iload_n 3, 1) := by decide +kernel
theorem d_By_addNumber_6 : decode mi_By_addNumber.2.1 6 = .ok (.if_icmp .ge 21, 3) := by decide +kernel
theorem d_By_addNumber_9 : decode mi_By_addNumber.2.1 9 = .ok (.aload_n 0, 1) := by decide +kernel
theorem d_By_addNumber_10 : decode mi_By_addNumber.2.1 10 = .ok (.lload_n 1, 1) := by decide +kernel
theorem d_By_addNumber_11 : decode mi_By_addNumber.2.1 11 = .ok (.bipush 8, 2) := by decide +kernel
theorem d_By_addNumber_13 : decode mi_By_addNumber.2.1 13 = .ok (.iload 4, 2) := by decide +kernel
theorem d_By_addNumber_15 : decode mi_By_addNumber.2.1 15 = .ok (.imul, 1) := by decide +kernel
theorem d_By_addNumber_16 : decode mi_By_addNumber.2.1 16 = .ok (.lshr, 1) := by decide +kernel
theorem d_By_addNumber_17 : decode mi_By_addNumber.2.1 17 = .ok (.l2i, 1) := by decide +kernel
theorem d_By_addNumber_18 : decode mi_By_addNumber.2.1 18 = .ok (.invokevirtual 17, 3) := by decide +kernel
theorem d_By_addNumber_21 : decode mi_By_addNumber.2.1 21 = .ok (.iinc 4 1, 3) := by decide +kernel
theorem d_By_addNumber_24 : decode mi_By_addNumber.2.1 24 = .ok (.goto (-21), 3) := by decide +kernel
theorem d_By_addNumber_27 : decode mi_By_addNumber.2.1 27 = .ok (.return_, 1) := by decide +kernel
theorem d_Ch_restart_0 : decode mi_Ch_restart.2.1 0 = .ok (.aload_n 0, 1) := by decide +kernel
theorem d_Ch_restart_1 : decode mi_Ch_restart.2.1 1 = .ok (.iconst 1, 1) := by decide +kernel
theorem d_Ch_restart_2 : decode mi_Ch_restart.2.1 2 = .ok (.putfield 18, 3) := by decide +kernel
theorem d_Ch_restart_5 : decode mi_Ch_restart.2.1 5 = .ok (.aload_n 0, 1) := by decide +kernel
theorem d_Ch_restart_6 : decode mi_Ch_restart.2.1 6 = .ok (.iconst 0, 1) := by decide +kernel
theorem d_Ch_restart_7 : decode mi_Ch_restart.2.1 7 = .ok (.putfield 22, 3) := by decide +kernel
theorem d_Ch_restart_10 : decode mi_Ch_restart.2.1 10 = .ok (.aload_n 0, 1) := by decide +kernel
theorem d_Ch_restart_11 : decode mi_Ch_restart.2.1 11 = .ok (.iconst 0, 1) := by decide +kernel
theorem d_Ch_restart_12 : decode mi_Ch_restart.2.1 12 = .ok (.putfield 25, 3) := by decide +kernel
theorem d_Ch_restart_15 : decode mi_Ch_restart.2.1 15 = .ok (.return_, 1) := by decide +kernel
theorem d_By_clear_0 : decode mi_By_clear.2.1 0 = .ok (.aload_n 0, 1) := by decide +kernel
theorem d_By_clear_1 : decode mi_By_clear.2.1 1 = .ok (.iconst 0, 1) := by decide +kernel
theorem d_By_clear_2 : decode mi_By_clear.2.1 2 = .ok (.putfield 13, 3) := by decide +kernel
theorem d_By_clear_5 : decode mi_By_clear.2.1 5 = .ok (.return_, 1) := by decide +kernel
theorem d_By_isSameAs_0 : decode mi_By_isSameAs.2.1 0 = .ok (.aload_n 0, 1) := by decide +kernel
theorem d_By_isSameAs_1 : decode mi_By_isSameAs.2.1 1 = .ok (.getfield 13, 3) := by decide +kernel
theorem d_By_isSameAs_4 : decode mi_By_isSameAs.2.1 4 = .ok (.aload_n 1, 1) := by decide +kernel
theorem d_By_isSameAs_5 : decode mi_By_isSameAs.2.1 5 = .ok (.getfield 13, 3) := by decide +kernel
theorem d_By_isSameAs_8 : decode mi_By_isSameAs.2.1 8 = .ok (.if_icmp .eq 5, 3) := by decide +kernel
theorem d_By_isSameAs_11 : decode mi_By_isSameAs.2.1 11 = .ok (.iconst 0, 1) := by decide +kernel
theorem d_By_isSameAs_12 : decode mi_By_isSameAs.2.1 12 = .ok (.ireturn, 1) := by decide +kernel
theorem d_By_isSameAs_13 : decode mi_By_isSameAs.2.1 13 = .ok (.iconst 0, 1) := by decide +kernel
theorem d_By_isSameAs_14 : decode mi_By_isSameAs.2.1 14 = .ok (.istore_n 2, 1) := by decide +kernel
theorem d_By_isSameAs_15 : decode mi_By_isSameAs.2.1 15 = .ok (.iload_n 2, 1) := by decide +kernel
theorem d_By_isSameAs_16 : decode mi_By_isSameAs.2.1 16 = .ok (.aload_n 0, 1) := by decide +kernel
theorem d_By_isSameAs_17 : decode mi_By_isSameAs.2.1 17 = .ok (.getfield 13, 3) := by decide +kernel
theorem d_By_isSameAs_20 : decode mi_By_isSameAs.2.1 20 = .ok (.if_icmp .ge 26, 3) := by decide +kernel
theorem d_By_isSameAs_23 : decode mi_By_isSameAs.2.1 23 = .ok (.aload_n 0, 1) := by decide +kernel
theorem d_By_isSameAs_24 : decode mi_By_isSameAs.2.1 24 = .ok (.getfield 7, 3) := by decide +kernel
theorem d_By_isSameAs_27 : decode mi_By_isSameAs.2.1 27 = .ok (.iload_n 2, 1) := by decide +kernel
theorem d_By_isSameAs_28 : decode mi_By_isSameAs.2.1 28 = .ok (.baload, 1) := by decide +kernel
theorem d_By_isSameAs_29 : decode mi_By_isSameAs.2.1 29 = .ok (.aload_n 1, 1) := by decide +kernel
theorem d_By_isSameAs_30 : decode mi_By_isSameAs.2.1 30 = .ok (.getfield 7, 3) := by decide +kernel
theorem d_By_isSameAs_33 : decode mi_By_isSameAs.2.1 33 = .ok (.iload_n 2, 1) := by decide +kernel
theorem d_By_isSameAs_34 : decode mi_By_isSameAs.2.1 34 = .ok (.baload, 1) := by decide +kernel
theorem d_By_isSameAs_35 : decode mi_By_isSameAs.2.1 35 = .ok (.if_icmp .eq 5, 3) := by decide +kernel
theorem d_By_isSameAs_38 : decode mi_By_isSameAs.2.1 38 = .ok (.iconst 0, 1) := by decide +kernel
theorem d_By_isSameAs_39 : decode mi_By_isSameAs.2.1 39 = .ok (.ireturn, 1) := by decide +kernel
theorem d_By_isSameAs_40 : decode mi_By_isSameAs.2.1 40 = .ok (.iinc 2 1, 3) := by decide +kernel
theorem d_By_isSameAs_43 : decode mi_By_isSameAs.2.1 43 = .ok (.goto (-28), 3) := by decide +kernel
theorem d_By_isSameAs_46 : decode mi_By_isSameAs.2.1 46 = .ok (.iconst 1, 1) := by decide +kernel
theorem d_By_isSameAs_47 : decode mi_By_isSameAs.2.1 47 = .ok (.ireturn, 1) := by decide +kernel
theorem d_By_append_0 : decode mi_By_append.2.1 0 = .ok (.aload_n 1, 1) := by decide +kernel
theorem d_By_append_1 : decode mi_By_append.2.1 1 = .ok (.getfield 13, 3) := by decide +kernel
theorem d_By_append_4 : decode mi_By_append.2.1 4 = .ok (.aload_n 0, 1) := by decide +kernel
theorem d_By_append_5 : decode mi_By_append.2.1 5 = .ok (.getfield 7, 3) := by decide +kernel
theorem d_By_append_8 : decode mi_By_append.2.1 8 = .ok (.arraylength, 1) := by decide +kernel
theorem d_By_append_9 : decode mi_By_append.2.1 9 = .ok (.aload_n 0, 1) := by decide +kernel
theorem d_By_append_10 : decode mi_By_append.2.1 10 = .ok (.getfield 13, 3) := by decide +kernel
theorem d_By_append_13 : decode mi_By_append.2.1 13 = .ok (.isub, 1) := by decide +kernel
theorem d_By_append_14 : decode mi_By_append.2.1 14 = .ok (.invokestatic 21, 3) := by decide +kernel
theorem d_By_append_17 : decode mi_By_append.2.1 17 = .ok (.istore_n 2, 1) := by decide +kernel
theorem d_By_append_18 : decode mi_By_append.2.1 18 = .ok (.aload_n 1, 1) := by decide +kernel
theorem d_By_append_19 : decode mi_By_append.2.1 19 = .ok (.getfield 7, 3) := by decide +kernel
theorem d_By_append_22 : decode mi_By_append.2.1 22 = .ok (.iconst 0, 1) := by decide +kernel
theorem d_By_append_23 : decode mi_By_append.2.1 23 = .ok (.aload_n 0, 1) := by decide +kernel
theorem d_By_append_24 : decode mi_By_append.2.1 24 = .ok (.getfield 7, 3) := by decide +kernel
theorem d_By_append_27 : decode mi_By_append.2.1 27 = .ok (.aload_n 0, 1) := by decide +kernel
theorem d_By_append_28 : decode mi_By_append.2.1 28 = .ok (.getfield 13, 3) := by decide +kernel
theorem d_By_append_31 : decode mi_By_append.2.1 31 = .ok (.iload_n 2, 1) := by decide +kernel
theorem d_By_append_32 : decode mi_By_append.2.1 32 = .ok (.invokestatic 27, 3) := by decide +kernel
theorem d_By_append_35 : decode mi_By_append.2.1 35 = .ok (.aload_n 0, 1) := by decide +kernel
theorem d_By_append_36 : decode mi_By_append.2.1 36 = .ok (.dup, 1) := by decide +kernel
theorem d_By_append_37 : decode mi_By_append.2.1 37 = .ok (.getfield 13, 3) := by decide +kernel
theorem d_By_append_40 : decode mi_By_append.2.1 40 = .ok (.iload_n 2, 1) := by decide +kernel
theorem d_By_append_41 : decode mi_By_append.2.1 41 = .ok (.iadd, 1) := by decide +kernel
theorem d_By_append_42 : decode mi_By_append.2.1 42 = .ok (.putfield 13, 3) := by decide +kernel
theorem d_By_append_45 : decode mi_By_append.2.1 45 = .ok (.return_, 1) := by decide +kernel
theorem d_It_addNotice_0 : decode mi_It_addNotice.2.1 0 = .ok (.aload_n 0, 1) := by decide +kernel
theorem d_It_addNotice_1 : decode mi_It_addNotice.2.1 1 = .ok (.getfield 29, 3) := by decide +kernel
theorem d_It_addNotice_4 : decode mi_It_addNotice.2.1 4 = .ok (.aload_n 0, 1) := by decide +kernel
theorem d_It_addNotice_5 : decode mi_It_addNotice.2.1 5 = .ok (.getfield 17, 3) := by decide +kernel
theorem d_It_addNotice_8 : decode mi_It_addNotice.2.1 8 = .ok (.if_icmp .ne 15, 3) := by decide +kernel
theorem d_It_addNotice_11 : decode mi_It_addNotice.2.1 11 = .ok (.aload_n 0, 1) := by decide +kernel
theorem d_It_addNotice_12 : decode mi_It_addNotice.2.1 12 = .ok (.getfield 17, 3) := by decide +kernel
theorem d_It_addNotice_15 : decode mi_It_addNotice.2.1 15 = .ok (.iconst 1, 1) := by decide +kernel
theorem d_It_addNotice_16 : decode mi_It_addNotice.2.1 16 = .ok (.if_icmp .le 7, 3) := by decide +kernel
theorem d_It_addNotice_19 : decode mi_It_addNotice.2.1 19 = .ok (.iconst 1, 1) := by decide +kernel
theorem d_It_addNotice_20 : decode mi_It_addNotice.2.1 20 = .ok (.goto 4, 3) := by decide +kernel
theorem d_It_addNotice_23 : decode mi_It_addNotice.2.1 23 = .ok (.iconst 0, 1) := by decide +kernel
theorem d_It_addNotice_24 : decode mi_It_addNotice.2.1 24 = .ok (.istore_n 2, 1) := by decide +kernel
theorem d_It_addNotice_25 : decode mi_It_addNotice.2.1 25 = .ok (.aload_n 0, 1) := by decide +kernel
theorem d_It_addNotice_26 : decode mi_It_addNotice.2.1 26 = .ok (.getfield 29, 3) := by decide +kernel
theorem d_It_addNotice_29 : decode mi_It_addNotice.2.1 29 = .ok (.aload_n 0, 1) := by decide +kernel
theorem d_It_addNotice_30 : decode mi_It_addNotice.2.1 30 = .ok (.getfield 17, 3) := by decide +kernel
theorem d_It_addNotice_33 : decode mi_It_addNotice.2.1 33 = .ok (.if_icmp .ne 7, 3) := by decide +kernel
theorem d_It_addNotice_36 : decode mi_It_addNotice.2.1 36 = .ok (.aload_n 0, 1) := by decide +kernel
theorem d_It_addNotice_37 : decode mi_It_addNotice.2.1 37 = .ok (.invokevirtual 32, 3) := by decide +kernel
theorem d_It_addNotice_40 : decode mi_It_addNotice.2.1 40 = .ok (.aload_n 0, 1) := by decide +kernel
theorem d_It_addNotice_41 : decode mi_It_addNotice.2.1 41 = .ok (.getfield 11, 3) := by decide +kernel
theorem d_It_addNotice_44 : decode mi_It_addNotice.2.1 44 = .ok (.aload_n 0, 1) := by decide +kernel
theorem d_It_addNotice_45 : decode mi_It_addNotice.2.1 45 = .ok (.getfield 29, 3) := by decide +kernel
theorem d_It_addNotice_48 : decode mi_It_addNotice.2.1 48 = .ok (.aaload, 1) := by decide +kernel
theorem d_It_addNotice_49 : decode mi_It_addNotice.2.1 49 = .ok (.astore_n 3, 1) := by decide +kernel
theorem d_It_addNotice_50 : decode mi_It_addNotice.2.1 50 = .ok (.aload_n 3, 1) := by decide +kernel
theorem d_It_addNotice_51 : decode mi_It_addNotice.2.1 51 = .ok (.getfield 35, 3) := by decide +kernel
theorem d_It_addNotice_54 : decode mi_It_addNotice.2.1 54 = .ok (.invokevirtual 39, 3) := by decide +kernel
theorem d_It_addNotice_57 : decode mi_It_addNotice.2.1 57 = .ok (.aload_n 3, 1) := by decide +kernel
theorem d_It_addNotice_58 : decode mi_It_addNotice.2.1 58 = .ok (.getfield 35, 3) := by decide +kernel
theorem d_It_addNotice_61 : decode mi_It_addNotice.2.1 61 = .ok (.aload_n 1, 1) := by decide +kernel
theorem d_It_addNotice_62 : decode mi_It_addNotice.2.1 62 = .ok (.invokevirtual 44, 3) := by decide +kernel
theorem d_It_addNotice_65 : decode mi_It_addNotice.2.1 65 = .ok (.aload_n 3, 1) := by decide +kernel
theorem d_It_addNotice_66 : decode mi_It_addNotice.2.1 66 = .ok (.iconst 0, 1) := by decide +kernel
theorem d_It_addNotice_67 : decode mi_It_addNotice.2.1 67 = .ok (.putfield 48, 3) := by decide +kernel
theorem d_It_addNotice_70 : decode mi_It_addNotice.2.1 70 = .ok (.aload_n 0, 1) := by decide +kernel
theorem d_It_addNotice_71 : decode mi_It_addNotice.2.1 71 = .ok (.dup, 1) := by decide +kernel
theorem d_It_addNotice_72 : decode mi_It_addNotice.2.1 72 = .ok (.getfield 29, 3) := by decide +kernel
theorem d_It_addNotice_75 : decode mi_It_addNotice.2.1 75 = .ok (.iconst 1, 1) := by decide +kernel
theorem d_It_addNotice_76 : decode mi_It_addNotice.2.1 76 = .ok (.iadd, 1) := by decide +kernel
theorem d_It_addNotice_77 : decode mi_It_addNotice.2.1 77 = .ok (.putfield 29, 3) := by decide +kernel
theorem d_It_addNotice_80 : decode mi_It_addNotice.2.1 80 = .ok (.iload_n 2, 1) := by decide +kernel
theorem d_It_addNotice_81 : decode mi_It_addNotice.2.1 81 = .ok (.ifCond .eq 29, 3) := by decide +kernel
theorem d_It_addNotice_84 : decode mi_It_addNotice.2.1 84 = .ok (.aload_n 0, 1) := by decide +kernel
theorem d_It_addNotice_85 : decode mi_It_addNotice.2.1 85 = .ok (.getfield 11, 3) := by decide +kernel
theorem d_It_addNotice_88 : decode mi_It_addNotice.2.1 88 = .ok (.aload_n 0, 1) := by decide +kernel
theorem d_It_addNotice_89 : decode mi_It_addNotice.2.1 89 = .ok (.getfield 25, 3) := by decide +kernel
theorem d_It_addNotice_92 : decode mi_It_addNotice.2.1 92 = .ok (.ifCond .eq 7, 3) := by decide +kernel
theorem d_It_addNotice_95 : decode mi_It_addNotice.2.1 95 = .ok (.iconst 0, 1) := by decide +kernel
theorem d_It_addNotice_96 : decode mi_It_addNotice.2.1 96 = .ok (.goto 9, 3) := by decide +kernel
theorem d_It_addNotice_99 : decode mi_It_addNotice.2.1 99 = .ok (.aload_n 0, 1) := by decide +kernel
theorem d_It_addNotice_100 : decode mi_It_addNotice.2.1 100 = .ok (.getfield 29, 3) := by decide +kernel
theorem d_It_addNotice_103 : decode mi_It_addNotice.2.1 103 = .ok (.iconst 1, 1) := by decide +kernel
theorem d_It_addNotice_104 : decode mi_It_addNotice.2.1 104 = .ok (.isub, 1) := by decide +kernel
theorem d_It_addNotice_105 : decode mi_It_addNotice.2.1 105 = .ok (.aaload, 1) := by decide +kernel
theorem d_It_addNotice_106 : decode mi_It_addNotice.2.1 106 = .ok (.iconst 1, 1) := by decide +kernel
theorem d_It_addNotice_107 : decode mi_It_addNotice.2.1 107 = .ok (.putfield 48, 3) := by decide +kernel
theorem d_It_addNotice_110 : decode mi_It_addNotice.2.1 110 = .ok (.return_, 1) := by decide +kernel
theorem d_It_discard_0 : decode mi_It_discard.2.1 0 = .ok (.aload_n 0, 1) := by decide +kernel
theorem d_It_discard_1 : decode mi_It_discard.2.1 1 = .ok (.getfield 25, 3) := by decide +kernel
theorem d_It_discard_4 : decode mi_It_discard.2.1 4 = .ok (.ifCond .eq 11, 3) := by decide +kernel
theorem d_It_discard_7 : decode mi_It_discard.2.1 7 = .ok (.aload_n 0, 1) := by decide +kernel
theorem d_It_discard_8 : decode mi_It_discard.2.1 8 = .ok (.invokevirtual 51, 3) := by decide +kernel
theorem d_It_discard_11 : decode mi_It_discard.2.1 11 = .ok (.pop, 1) := by decide +kernel
theorem d_It_discard_12 : decode mi_It_discard.2.1 12 = .ok (.goto 13, 3) := by decide +kernel
theorem d_It_discard_15 : decode mi_It_discard.2.1 15 = .ok (.aload_n 0, 1) := by decide +kernel
theorem d_It_discard_16 : decode mi_It_discard.2.1 16 = .ok (.dup, 1) := by decide +kernel
theorem d_It_discard_17 : decode mi_It_discard.2.1 17 = .ok (.getfield 29, 3) := by decide +kernel
theorem d_It_discard_20 : decode mi_It_discard.2.1 20 = .ok (.iconst 1, 1) := by decide +kernel
theorem d_It_discard_21 : decode mi_It_discard.2.1 21 = .ok (.isub, 1) := by decide +kernel
theorem d_It_discard_22 : decode mi_It_discard.2.1 22 = .ok (.putfield 29, 3) := by decide +kernel
theorem d_It_discard_25 : decode mi_It_discard.2.1 25 = .ok (.return_, 1) := by decide +kernel
theorem d_It_removeFirst_0 : decode mi_It_removeFirst.2.1 0 = .ok (.aload_n 0, 1) := by decide +kernel
theorem d_It_removeFirst_1 : decode mi_It_removeFirst.2.1 1 = .ok (.getfield 11, 3) := by decide +kernel
theorem d_It_removeFirst_4 : decode mi_It_removeFirst.2.1 4 = .ok (.iconst 0, 1) := by decide +kernel
theorem d_It_removeFirst_5 : decode mi_It_removeFirst.2.1 5 = .ok (.aaload, 1) := by decide +kernel
theorem d_It_removeFirst_6 : decode mi_It_removeFirst.2.1 6 = .ok (.astore_n 1, 1) := by decide +kernel
theorem d_It_removeFirst_7 : decode mi_It_removeFirst.2.1 7 = .ok (.iconst 1, 1) := by decide +kernel
theorem d_It_removeFirst_8 : decode mi_It_removeFirst.2.1 8 = .ok (.istore_n 2, 1) := by decide +kernel
theorem d_It_removeFirst_9 : decode mi_It_removeFirst.2.1 9 = .ok (.iload_n 2, 1) := by decide +kernel
theorem d_It_removeFirst_10 : decode mi_It_removeFirst.2.1 10 = .ok (.aload_n 0, 1) := by decide +kernel
theorem d_It_removeFirst_11 : decode mi_It_removeFirst.2.1 11 = .ok (.getfield 29, 3) := by decide +kernel
theorem d_It_removeFirst_14 : decode mi_It_removeFirst.2.1 14 = .ok (.if_icmp .ge 23, 3) := by decide +kernel
theorem d_It_removeFirst_17 : decode mi_It_removeFirst.2.1 17 = .ok (.aload_n 0, 1) := by decide +kernel
theorem d_It_removeFirst_18 : decode mi_It_removeFirst.2.1 18 = .ok (.getfield 11, 3) := by decide +kernel
theorem d_It_removeFirst_21 : decode mi_It_removeFirst.2.1 21 = .ok (.iload_n 2, 1) := by decide +kernel
theorem d_It_removeFirst_22 : decode mi_It_removeFirst.2.1 22 = .ok (.iconst 1, 1) := by decide +kernel
theorem d_It_removeFirst_23 : decode mi_It_removeFirst.2.1 23 = .ok (.isub, 1) := by decide +kernel
theorem d_It_removeFirst_24 : decode mi_It_removeFirst.2.1 24 = .ok (.aload_n 0, 1) := by decide +kernel
theorem d_It_removeFirst_25 : decode mi_It_removeFirst.2.1 25 = .ok (.getfield 11, 3) := by decide +kernel
theorem d_It_removeFirst_28 : decode mi_It_removeFirst.2.1 28 = .ok (.iload_n 2, 1) := by decide +kernel
theorem d_It_removeFirst_29 : decode mi_It_removeFirst.2.1 29 = .ok (.aaload, 1) := by decide +kernel
theorem d_It_removeFirst_30 : decode mi_It_removeFirst.2.1 30 = .ok (.aastore, 1) := by decide +kernel
theorem d_It_removeFirst_31 : decode mi_It_removeFirst.2.1 31 = .ok (.iinc 2 1, 3) := by decide +kernel
theorem d_It_removeFirst_34 : decode mi_It_removeFirst.2.1 34 = .ok (.goto (-25), 3) := by decide +kernel
theorem d_It_removeFirst_37 : decode mi_It_removeFirst.2.1 37 = .ok (.aload_n 0, 1) := by decide +kernel
theorem d_It_removeFirst_38 : decode mi_It_removeFirst.2.1 38 = .ok (.dup, 1) := by decide +kernel
theorem d_It_removeFirst_39 : decode mi_It_removeFirst.2.1 39 = .ok (.getfield 29, 3) := by decide +kernel
theorem d_It_removeFirst_42 : decode mi_It_removeFirst.2.1 42 = .ok (.iconst 1, 1) := by decide +kernel
theorem d_It_removeFirst_43 : decode mi_It_removeFirst.2.1 43 = .ok (.isub, 1) := by decide +kernel
theorem d_It_removeFirst_44 : decode mi_It_removeFirst.2.1 44 = .ok (.putfield 29, 3) := by decide +kernel
theorem d_It_removeFirst_47 : decode mi_It_removeFirst.2.1 47 = .ok (.aload_n 0, 1) := by decide +kernel
theorem d_It_removeFirst_48 : decode mi_It_removeFirst.2.1 48 = .ok (.getfield 11, 3) := by decide +kernel
theorem d_It_removeFirst_51 : decode mi_It_removeFirst.2.1 51 = .ok (.aload_n 0, 1) := by decide +kernel
theorem d_It_removeFirst_52 : decode mi_It_removeFirst.2.1 52 = .ok (.getfield 29, 3) := by decide +kernel
theorem d_It_removeFirst_55 : decode mi_It_removeFirst.2.1 55 = .ok (.aload_n 1, 1) := by decide +kernel
theorem d_It_removeFirst_56 : decode mi_It_removeFirst.2.1 56 = .ok (.aastore, 1) := by decide +kernel
theorem d_It_removeFirst_57 : decode mi_It_removeFirst.2.1 57 = .ok (.aload_n 1, 1) := by decide +kernel
theorem d_It_removeFirst_58 : decode mi_It_removeFirst.2.1 58 = .ok (.areturn, 1) := by decide +kernel
theorem d_Ch_mustClose_0 : decode mi_Ch_mustClose.2.1 0 = .ok (.aload_n 0, 1) := by decide +kernel
theorem d_Ch_mustClose_1 : decode mi_Ch_mustClose.2.1 1 = .ok (.getfield 22, 3) := by decide +kernel
theorem d_Ch_mustClose_4 : decode mi_Ch_mustClose.2.1 4 = .ok (.ifCond .eq 13, 3) := by decide +kernel
theorem d_Ch_mustClose_7 : decode mi_Ch_mustClose.2.1 7 = .ok (.aload_n 0, 1) := by decide +kernel
theorem d_Ch_mustClose_8 : decode mi_Ch_mustClose.2.1 8 = .ok (.iload_n 2, 1) := by decide +kernel
theorem d_Ch_mustClose_9 : decode mi_Ch_mustClose.2.1 9 = .ok (.invokevirtual 28, 3) := by decide +kernel
theorem d_Ch_mustClose_12 : decode mi_Ch_mustClose.2.1 12 = .ok (.ifCond .ne 5, 3) := by decide +kernel
theorem d_Ch_mustClose_15 : decode mi_Ch_mustClose.2.1 15 = .ok (.iconst 1, 1) := by decide +kernel
theorem d_Ch_mustClose_16 : decode mi_Ch_mustClose.2.1 16 = .ok (.ireturn, 1) := by decide +kernel
theorem d_Ch_mustClose_17 : decode mi_Ch_mustClose.2.1 17 = .ok (.aload_n 0, 1) := by decide +kernel
theorem d_Ch_mustClose_18 : decode mi_Ch_mustClose.2.1 18 = .ok (.getfield 25, 3) := by decide +kernel
theorem d_Ch_mustClose_21 : decode mi_Ch_mustClose.2.1 21 = .ok (.ifCond .eq 13, 3) := by decide +kernel
theorem d_Ch_mustClose_24 : decode mi_Ch_mustClose.2.1 24 = .ok (.iload_n 3, 1) := by decide +kernel
theorem d_Ch_mustClose_25 : decode mi_Ch_mustClose.2.1 25 = .ok (.aload_n 0, 1) := by decide +kernel
theorem d_Ch_mustClose_26 : decode mi_Ch_mustClose.2.1 26 = .ok (.getfield 32, 3) := by decide +kernel
theorem d_Ch_mustClose_29 : decode mi_Ch_mustClose.2.1 29 = .ok (.if_icmp .eq 5, 3) := by decide +kernel
theorem d_Ch_mustClose_32 : decode mi_Ch_mustClose.2.1 32 = .ok (.iconst 1, 1) := by decide +kernel
theorem d_Ch_mustClose_33 : decode mi_Ch_mustClose.2.1 33 = .ok (.ireturn, 1) := by decide +kernel
theorem d_Ch_mustClose_34 : decode mi_Ch_mustClose.2.1 34 = .ok (.iload_n 1, 1) := by decide +kernel
theorem d_Ch_mustClose_35 : decode mi_Ch_mustClose.2.1 35 = .ok (.iconst 2, 1) := by decide +kernel
theorem d_Ch_mustClose_36 : decode mi_Ch_mustClose.2.1 36 = .ok (.if_icmp .eq 41, 3) := by decide +kernel
theorem d_Ch_mustClose_39 : decode mi_Ch_mustClose.2.1 39 = .ok (.aload_n 0, 1) := by decide +kernel
theorem d_Ch_mustClose_40 : decode mi_Ch_mustClose.2.1 40 = .ok (.getfield 25, 3) := by decide +kernel
theorem d_Ch_mustClose_43 : decode mi_Ch_mustClose.2.1 43 = .ok (.ifCond .eq 34, 3) := by decide +kernel
theorem d_Ch_mustClose_46 : decode mi_Ch_mustClose.2.1 46 = .ok (.aload_n 0, 1) := by decide +kernel
theorem d_Ch_mustClose_47 : decode mi_Ch_mustClose.2.1 47 = .ok (.getfield 12, 3) := by decide +kernel
theorem d_Ch_mustClose_50 : decode mi_Ch_mustClose.2.1 50 = .ok (.getfield 36, 3) := by decide +kernel
theorem d_Ch_mustClose_53 : decode mi_Ch_mustClose.2.1 53 = .ok (.getfield 40, 3) := by decide +kernel
theorem d_Ch_mustClose_56 : decode mi_Ch_mustClose.2.1 56 = .ok (.iload 4, 2) := by decide +kernel
theorem d_Ch_mustClose_58 : decode mi_Ch_mustClose.2.1 58 = .ok (.iadd, 1) := by decide +kernel
theorem d_Ch_mustClose_59 : decode mi_Ch_mustClose.2.1 59 = .ok (.bipush 64, 2) := by decide +kernel
theorem d_Ch_mustClose_61 : decode mi_Ch_mustClose.2.1 61 = .ok (.if_icmp .gt 12, 3) := by decide +kernel
theorem d_Ch_mustClose_64 : decode mi_Ch_mustClose.2.1 64 = .ok (.aload_n 0, 1) := by decide +kernel
theorem d_Ch_mustClose_65 : decode mi_Ch_mustClose.2.1 65 = .ok (.getfield 45, 3) := by decide +kernel
theorem d_Ch_mustClose_68 : decode mi_Ch_mustClose.2.1 68 = .ok (.bipush 12, 2) := by decide +kernel
theorem d_Ch_mustClose_70 : decode mi_Ch_mustClose.2.1 70 = .ok (.if_icmp .ne 7, 3) := by decide +kernel
theorem d_Ch_mustClose_73 : decode mi_Ch_mustClose.2.1 73 = .ok (.iconst 1, 1) := by decide +kernel
theorem d_Ch_mustClose_74 : decode mi_Ch_mustClose.2.1 74 = .ok (.goto 4, 3) := by decide +kernel
theorem d_Ch_mustClose_77 : decode mi_Ch_mustClose.2.1 77 = .ok (.iconst 0, 1) := by decide +kernel
theorem d_Ch_mustClose_78 : decode mi_Ch_mustClose.2.1 78 = .ok (.ireturn, 1) := by decide +kernel
theorem d_Ch_isNext_0 : decode mi_Ch_isNext.2.1 0 = .ok (.iload_n 1, 1) := by decide +kernel
theorem d_Ch_isNext_1 : decode mi_Ch_isNext.2.1 1 = .ok (.aload_n 0, 1) := by decide +kernel
theorem d_Ch_isNext_2 : decode mi_Ch_isNext.2.1 2 = .ok (.getfield 48, 3) := by decide +kernel
theorem d_Ch_isNext_5 : decode mi_Ch_isNext.2.1 5 = .ok (.iconst 1, 1) := by decide +kernel
theorem d_Ch_isNext_6 : decode mi_Ch_isNext.2.1 6 = .ok (.iadd, 1) := by decide +kernel
theorem d_Ch_isNext_7 : decode mi_Ch_isNext.2.1 7 = .ok (.if_icmp .eq 23, 3) := by decide +kernel
theorem d_Ch_isNext_10 : decode mi_Ch_isNext.2.1 10 = .ok (.aload_n 0, 1) := by decide +kernel
theorem d_Ch_isNext_11 : decode mi_Ch_isNext.2.1 11 = .ok (.getfield 48, 3) := by decide +kernel
theorem d_Ch_isNext_14 : decode mi_Ch_isNext.2.1 14 = .ok (.sipush 1000, 3) := by decide +kernel
theorem d_Ch_isNext_17 : decode mi_Ch_isNext.2.1 17 = .ok (.if_icmp .lt 17, 3) := by decide +kernel
theorem d_Ch_isNext_20 : decode mi_Ch_isNext.2.1 20 = .ok (.iload_n 1, 1) := by decide +kernel
theorem d_Ch_isNext_21 : decode mi_Ch_isNext.2.1 21 = .ok (.ifCond .lt 13, 3) := by decide +kernel
theorem d_Ch_isNext_24 : decode mi_Ch_isNext.2.1 24 = .ok (.iload_n 1, 1) := by decide +kernel
theorem d_Ch_isNext_25 : decode mi_Ch_isNext.2.1 25 = .ok (.bipush 9, 2) := by decide +kernel
theorem d_Ch_isNext_27 : decode mi_Ch_isNext.2.1 27 = .ok (.if_icmp .gt 7, 3) := by decide +kernel
theorem d_Ch_isNext_30 : decode mi_Ch_isNext.2.1 30 = .ok (.iconst 1, 1) := by decide +kernel
theorem d_Ch_isNext_31 : decode mi_Ch_isNext.2.1 31 = .ok (.goto 4, 3) := by decide +kernel
theorem d_Ch_isNext_34 : decode mi_Ch_isNext.2.1 34 = .ok (.iconst 0, 1) := by decide +kernel
theorem d_Ch_isNext_35 : decode mi_Ch_isNext.2.1 35 = .ok (.ireturn, 1) := by decide +kernel
theorem d_Ch_close_0 : decode mi_Ch_close.2.1 0 = .ok (.aload_n 0, 1) := by decide +kernel
theorem d_Ch_close_1 : decode mi_Ch_close.2.1 1 = .ok (.iconst 0, 1) := by decide +kernel
theorem d_Ch_close_2 : decode mi_Ch_close.2.1 2 = .ok (.putfield 18, 3) := by decide +kernel
theorem d_Ch_close_5 : decode mi_Ch_close.2.1 5 = .ok (.aload_n 0, 1) := by decide +kernel
theorem d_Ch_close_6 : decode mi_Ch_close.2.1 6 = .ok (.iconst 0, 1) := by decide +kernel
theorem d_Ch_close_7 : decode mi_Ch_close.2.1 7 = .ok (.putfield 25, 3) := by decide +kernel
theorem d_Ch_close_10 : decode mi_Ch_close.2.1 10 = .ok (.return_, 1) := by decide +kernel
theorem d_Ch_take_0 : decode mi_Ch_take.2.1 0 = .ok (.aload_n 0, 1) := by decide +kernel
theorem d_Ch_take_1 : decode mi_Ch_take.2.1 1 = .ok (.iconst 1, 1) := by decide +kernel
theorem d_Ch_take_2 : decode mi_Ch_take.2.1 2 = .ok (.putfield 22, 3) := by decide +kernel
theorem d_Ch_take_5 : decode mi_Ch_take.2.1 5 = .ok (.aload_n 0, 1) := by decide +kernel
theorem d_Ch_take_6 : decode mi_Ch_take.2.1 6 = .ok (.iload_n 2, 1) := by decide +kernel
theorem d_Ch_take_7 : decode mi_Ch_take.2.1 7 = .ok (.putfield 48, 3) := by decide +kernel
theorem d_Ch_take_10 : decode mi_Ch_take.2.1 10 = .ok (.iload_n 1, 1) := by decide +kernel
theorem d_Ch_take_11 : decode mi_Ch_take.2.1 11 = .ok (.iconst 2, 1) := by decide +kernel
theorem d_Ch_take_12 : decode mi_Ch_take.2.1 12 = .ok (.if_icmp .ne 9, 3) := by decide +kernel
theorem d_Ch_take_15 : decode mi_Ch_take.2.1 15 = .ok (.aload_n 0, 1) := by decide +kernel
theorem d_Ch_take_16 : decode mi_Ch_take.2.1 16 = .ok (.iconst 0, 1) := by decide +kernel
theorem d_Ch_take_17 : decode mi_Ch_take.2.1 17 = .ok (.putfield 25, 3) := by decide +kernel
theorem d_Ch_take_20 : decode mi_Ch_take.2.1 20 = .ok (.return_, 1) := by decide +kernel
theorem d_Ch_take_21 : decode mi_Ch_take.2.1 21 = .ok (.aload_n 0, 1) := by decide +kernel
theorem d_Ch_take_22 : decode mi_Ch_take.2.1 22 = .ok (.getfield 25, 3) := by decide +kernel
theorem d_Ch_take_25 : decode mi_Ch_take.2.1 25 = .ok (.ifCond .ne 23, 3) := by decide +kernel
theorem d_Ch_take_28 : decode mi_Ch_take.2.1 28 = .ok (.aload_n 0, 1) := by decide +kernel
theorem d_Ch_take_29 : decode mi_Ch_take.2.1 29 = .ok (.getfield 12, 3) := by decide +kernel
theorem d_Ch_take_32 : decode mi_Ch_take.2.1 32 = .ok (.getfield 36, 3) := by decide +kernel
theorem d_Ch_take_35 : decode mi_Ch_take.2.1 35 = .ok (.invokevirtual 51, 3) := by decide +kernel
theorem d_Ch_take_38 : decode mi_Ch_take.2.1 38 = .ok (.aload_n 0, 1) := by decide +kernel
theorem d_Ch_take_39 : decode mi_Ch_take.2.1 39 = .ok (.iload_n 3, 1) := by decide +kernel
theorem d_Ch_take_40 : decode mi_Ch_take.2.1 40 = .ok (.putfield 32, 3) := by decide +kernel
theorem d_Ch_take_43 : decode mi_Ch_take.2.1 43 = .ok (.aload_n 0, 1) := by decide +kernel
theorem d_Ch_take_44 : decode mi_Ch_take.2.1 44 = .ok (.iconst 0, 1) := by decide +kernel
theorem d_Ch_take_45 : decode mi_Ch_take.2.1 45 = .ok (.putfield 45, 3) := by decide +kernel
theorem d_Ch_take_48 : decode mi_Ch_take.2.1 48 = .ok (.aload_n 0, 1) := by decide +kernel
theorem d_Ch_take_49 : decode mi_Ch_take.2.1 49 = .ok (.getfield 12, 3) := by decide +kernel
theorem d_Ch_take_52 : decode mi_Ch_take.2.1 52 = .ok (.getfield 36, 3) := by decide +kernel
theorem d_Ch_take_55 : decode mi_Ch_take.2.1 55 = .ok (.lload 4, 2) := by decide +kernel
theorem d_Ch_take_57 : decode mi_Ch_take.2.1 57 = .ok (.iload 6, 2) := by decide +kernel
theorem d_Ch_take_59 : decode mi_Ch_take.2.1 59 = .ok (.invokevirtual 54, 3) := by decide +kernel
theorem d_Ch_take_62 : decode mi_Ch_take.2.1 62 = .ok (.aload_n 0, 1) := by decide +kernel
theorem d_Ch_take_63 : decode mi_Ch_take.2.1 63 = .ok (.dup, 1) := by decide +kernel
theorem d_Ch_take_64 : decode mi_Ch_take.2.1 64 = .ok (.getfield 45, 3) := by decide +kernel
theorem d_Ch_take_67 : decode mi_Ch_take.2.1 67 = .ok (.iconst 1, 1) := by decide +kernel
theorem d_Ch_take_68 : decode mi_Ch_take.2.1 68 = .ok (.iadd, 1) := by decide +kernel
theorem d_Ch_take_69 : decode mi_Ch_take.2.1 69 = .ok (.putfield 45, 3) := by decide +kernel
theorem d_Ch_take_72 : decode mi_Ch_take.2.1 72 = .ok (.aload_n 0, 1) := by decide +kernel
theorem d_Ch_take_73 : decode mi_Ch_take.2.1 73 = .ok (.iload_n 1, 1) := by decide +kernel
theorem d_Ch_take_74 : decode mi_Ch_take.2.1 74 = .ok (.ifCond .ne 7, 3) := by decide +kernel
theorem d_Ch_take_77 : decode mi_Ch_take.2.1 77 = .ok (.iconst 1, 1) := by decide +kernel
theorem d_Ch_take_78 : decode mi_Ch_take.2.1 78 = .ok (.goto 4, 3) := by decide +kernel
theorem d_Ch_take_81 : decode mi_Ch_take.2.1 81 = .ok (.iconst 0, 1) := by decide +kernel
theorem d_Ch_take_82 : decode mi_Ch_take.2.1 82 = .ok (.putfield 25, 3) := by decide +kernel
theorem d_Ch_take_85 : decode mi_Ch_take.2.1 85 = .ok (.return_, 1) := by decide +kernel
theorem d_Me_startReading_0 : decode mi_Me_startReading.2.1 0 = .ok (.aload_n 0, 1) := by decide +kernel
theorem d_Me_startReading_1 : decode mi_Me_startReading.2.1 1 = .ok (.iconst 0, 1) := by decide +kernel
theorem d_Me_startReading_2 : decode mi_Me_startReading.2.1 2 = .ok (.putfield 20, 3) := by decide +kernel
theorem d_Me_startReading_5 : decode mi_Me_startReading.2.1 5 = .ok (.aload_n 0, 1) := by decide +kernel
theorem d_Me_startReading_6 : decode mi_Me_startReading.2.1 6 = .ok (.iconst 1, 1) := by decide +kernel
theorem d_Me_startReading_7 : decode mi_Me_startReading.2.1 7 = .ok (.putfield 24, 3) := by decide +kernel
theorem d_Me_startReading_10 : decode mi_Me_startReading.2.1 10 = .ok (.return_, 1) := by decide +kernel
theorem d_Me_left_0 : decode mi_Me_left.2.1 0 = .ok (.aload_n 0, 1) := by decide +kernel
theorem d_Me_left_1 : decode mi_Me_left.2.1 1 = .ok (.getfield 14, 3) := by decide +kernel
theorem d_Me_left_4 : decode mi_Me_left.2.1 4 = .ok (.getfield 28, 3) := by decide +kernel
theorem d_Me_left_7 : decode mi_Me_left.2.1 7 = .ok (.aload_n 0, 1) := by decide +kernel
theorem d_Me_left_8 : decode mi_Me_left.2.1 8 = .ok (.getfield 20, 3) := by decide +kernel
theorem d_Me_left_11 : decode mi_Me_left.2.1 11 = .ok (.isub, 1) := by decide +kernel
theorem d_Me_left_12 : decode mi_Me_left.2.1 12 = .ok (.ireturn, 1) := by decide +kernel
theorem d_Me_readByte_0 : decode mi_Me_readByte.2.1 0 = .ok (.aload_n 0, 1) := by decide +kernel
theorem d_Me_readByte_1 : decode mi_Me_readByte.2.1 1 = .ok (.getfield 20, 3) := by decide +kernel
theorem d_Me_readByte_4 : decode mi_Me_readByte.2.1 4 = .ok (.aload_n 0, 1) := by decide +kernel
theorem d_Me_readByte_5 : decode mi_Me_readByte.2.1 5 = .ok (.getfield 14, 3) := by decide +kernel
theorem d_Me_readByte_8 : decode mi_Me_readByte.2.1 8 = .ok (.getfield 28, 3) := by decide +kernel
theorem d_Me_readByte_11 : decode mi_Me_readByte.2.1 11 = .ok (.if_icmp .lt 10, 3) := by decide +kernel
theorem d_Me_readByte_14 : decode mi_Me_readByte.2.1 14 = .ok (.aload_n 0, 1) := by decide +kernel
theorem d_Me_readByte_15 : decode mi_Me_readByte.2.1 15 = .ok (.iconst 0, 1) := by decide +kernel
theorem d_Me_readByte_16 : decode mi_Me_readByte.2.1 16 = .ok (.putfield 24, 3) := by decide +kernel
theorem d_Me_readByte_19 : decode mi_Me_readByte.2.1 19 = .ok (.iconst 0, 1) := by decide +kernel
theorem d_Me_readByte_20 : decode mi_Me_readByte.2.1 20 = .ok (.ireturn, 1) := by decide +kernel
theorem d_Me_readByte_21 : decode mi_Me_readByte.2.1 21 = .ok (.aload_n 0, 1) := by decide +kernel
theorem d_Me_readByte_22 : decode mi_Me_readByte.2.1 22 = .ok (.dup, 1) := by decide +kernel
theorem d_Me_readByte_23 : decode mi_Me_readByte.2.1 23 = .ok (.getfield 20, 3) := by decide +kernel
theorem d_Me_readByte_26 : decode mi_Me_readByte.2.1 26 = .ok (.iconst 1, 1) := by decide +kernel
theorem d_Me_readByte_27 : decode mi_Me_readByte.2.1 27 = .ok (.iadd, 1) := by decide +kernel
theorem d_Me_readByte_28 : decode mi_Me_readByte.2.1 28 = .ok (.putfield 20, 3) := by decide +kernel
theorem d_Me_readByte_31 : decode mi_Me_readByte.2.1 31 = .ok (.aload_n 0, 1) := by decide +kernel
theorem d_Me_readByte_32 : decode mi_Me_readByte.2.1 32 = .ok (.getfield 14, 3) := by decide +kernel
theorem d_Me_readByte_35 : decode mi_Me_readByte.2.1 35 = .ok (.getfield 35, 3) := by decide +kernel
theorem d_Me_readByte_38 : decode mi_Me_readByte.2.1 38 = .ok (.aload_n 0, 1) := by decide +kernel
theorem d_Me_readByte_39 : decode mi_Me_readByte.2.1 39 = .ok (.getfield 20, 3) := by decide +kernel
theorem d_Me_readByte_42 : decode mi_Me_readByte.2.1 42 = .ok (.iconst 1, 1) := by decide +kernel
theorem d_Me_readByte_43 : decode mi_Me_readByte.2.1 43 = .ok (.isub, 1) := by decide +kernel
theorem d_Me_readByte_44 : decode mi_Me_readByte.2.1 44 = .ok (.baload, 1) := by decide +kernel
theorem d_Me_readByte_45 : decode mi_Me_readByte.2.1 45 = .ok (.sipush 255, 3) := by decide +kernel
theorem d_Me_readByte_48 : decode mi_Me_readByte.2.1 48 = .ok (.iand, 1) := by decide +kernel
theorem d_Me_readByte_49 : decode mi_Me_readByte.2.1 49 = .ok (.ireturn, 1) := by decide +kernel
theorem d_Me_readName_0 : decode mi_Me_readName.2.1 0 = .ok (.aload_n 0, 1) := by decide +kernel
theorem d_Me_readName_1 : decode mi_Me_readName.2.1 1 = .ok (.invokevirtual 39, 3) := by decide +kernel
theorem d_Me_readName_4 : decode mi_Me_readName.2.1 4 = .ok (.istore_n 1, 1) := by decide +kernel
theorem d_Me_readName_5 : decode mi_Me_readName.2.1 5 = .ok (.iload_n 1, 1) := by decide +kernel
theorem d_Me_readName_6 : decode mi_Me_readName.2.1 6 = .ok (.ifCond .ne 8, 3) := by decide +kernel
theorem d_Me_readName_9 : decode mi_Me_readName.2.1 9 = .ok (.aload_n 0, 1) := by decide +kernel
theorem d_Me_readName_10 : decode mi_Me_readName.2.1 10 = .ok (.invokevirtual 39, 3) := by decide +kernel
theorem d_Me_readName_13 : decode mi_Me_readName.2.1 13 = .ok (.ireturn, 1) := by decide +kernel
theorem d_Me_readName_14 : decode mi_Me_readName.2.1 14 = .ok (.iload_n 1, 1) := by decide +kernel
theorem d_Me_readName_15 : decode mi_Me_readName.2.1 15 = .ok (.iconst 1, 1) := by decide +kernel
theorem d_Me_readName_16 : decode mi_Me_readName.2.1 16 = .ok (.if_icmp .eq 10, 3) := by decide +kernel
theorem d_Me_readName_19 : decode mi_Me_readName.2.1 19 = .ok (.aload_n 0, 1) := by decide +kernel
theorem d_Me_readName_20 : decode mi_Me_readName.2.1 20 = .ok (.iconst 0, 1) := by decide +kernel
theorem d_Me_readName_21 : decode mi_Me_readName.2.1 21 = .ok (.putfield 24, 3) := by decide +kernel
theorem d_Me_readName_24 : decode mi_Me_readName.2.1 24 = .ok (.iconst (-1), 1) := by decide +kernel
theorem d_Me_readName_25 : decode mi_Me_readName.2.1 25 = .ok (.ireturn, 1) := by decide +kernel
theorem d_Me_readName_26 : decode mi_Me_readName.2.1 26 = .ok (.aload_n 0, 1) := by decide +kernel
theorem d_Me_readName_27 : decode mi_Me_readName.2.1 27 = .ok (.invokevirtual 39, 3) := by decide +kernel
theorem d_Me_readName_30 : decode mi_Me_readName.2.1 30 = .ok (.istore_n 2, 1) := by decide +kernel
theorem d_Me_readName_31 : decode mi_Me_readName.2.1 31 = .ok (.aload_n 0, 1) := by decide +kernel
theorem d_Me_readName_32 : decode mi_Me_readName.2.1 32 = .ok (.invokevirtual 39, 3) := by decide +kernel
theorem d_Me_readName_35 : decode mi_Me_readName.2.1 35 = .ok (.aload_n 0, 1) := by decide +kernel
theorem d_Me_readName_36 : decode mi_Me_readName.2.1 36 = .ok (.invokevirtual 39, 3) := by decide +kernel
theorem d_Me_readName_39 : decode mi_Me_readName.2.1 39 = .ok (.bipush 8, 2) := by decide +kernel
theorem d_Me_readName_41 : decode mi_Me_readName.2.1 41 = .ok (.ishl, 1) := by decide +kernel
theorem d_Me_readName_42 : decode mi_Me_readName.2.1 42 = .ok (.ior, 1) := by decide +kernel
theorem d_Me_readName_43 : decode mi_Me_readName.2.1 43 = .ok (.istore_n 3, 1) := by decide +kernel
theorem d_Me_readName_44 : decode mi_Me_readName.2.1 44 = .ok (.iload_n 2, 1) := by decide +kernel
theorem d_Me_readName_45 : decode mi_Me_readName.2.1 45 = .ok (.ifCond .ne 7, 3) := by decide +kernel
theorem d_Me_readName_48 : decode mi_Me_readName.2.1 48 = .ok (.iload_n 3, 1) := by decide +kernel
theorem d_Me_readName_49 : decode mi_Me_readName.2.1 49 = .ok (.goto 4, 3) := by decide +kernel
theorem d_Me_readName_52 : decode mi_Me_readName.2.1 52 = .ok (.iconst (-1), 1) := by decide +kernel
theorem d_Me_readName_53 : decode mi_Me_readName.2.1 53 = .ok (.ireturn, 1) := by decide +kernel
theorem d_Me_isReadWhole_0 : decode mi_Me_isReadWhole.2.1 0 = .ok (.aload_n 0, 1) := by decide +kernel
theorem d_Me_isReadWhole_1 : decode mi_Me_isReadWhole.2.1 1 = .ok (.getfield 24, 3) := by decide +kernel
theorem d_Me_isReadWhole_4 : decode mi_Me_isReadWhole.2.1 4 = .ok (.ifCond .eq 14, 3) := by decide +kernel
theorem d_Me_isReadWhole_7 : decode mi_Me_isReadWhole.2.1 7 = .ok (.aload_n 0, 1) := by decide +kernel
theorem d_Me_isReadWhole_8 : decode mi_Me_isReadWhole.2.1 8 = .ok (.invokevirtual 31, 3) := by decide +kernel
theorem d_Me_isReadWhole_11 : decode mi_Me_isReadWhole.2.1 11 = .ok (.ifCond .ne 7, 3) := by decide +kernel
theorem d_Me_isReadWhole_14 : decode mi_Me_isReadWhole.2.1 14 = .ok (.iconst 1, 1) := by decide +kernel
theorem d_Me_isReadWhole_15 : decode mi_Me_isReadWhole.2.1 15 = .ok (.goto 4, 3) := by decide +kernel
theorem d_Me_isReadWhole_18 : decode mi_Me_isReadWhole.2.1 18 = .ok (.iconst 0, 1) := by decide +kernel
theorem d_Me_isReadWhole_19 : decode mi_Me_isReadWhole.2.1 19 = .ok (.ireturn, 1) := by decide +kernel
theorem d_Me_readValue_0 : decode mi_Me_readValue.2.1 0 = .ok (.aload_n 0, 1) := by decide +kernel
theorem d_Me_readValue_1 : decode mi_Me_readValue.2.1 1 = .ok (.invokevirtual 39, 3) := by decide +kernel
theorem d_Me_readValue_4 : decode mi_Me_readValue.2.1 4 = .ok (.istore_n 3, 1) := by decide +kernel
theorem d_Me_readValue_5 : decode mi_Me_readValue.2.1 5 = .ok (.aload_n 1, 1) := by decide +kernel
theorem d_Me_readValue_6 : decode mi_Me_readValue.2.1 6 = .ok (.iload_n 3, 1) := by decide +kernel
theorem d_Me_readValue_7 : decode mi_Me_readValue.2.1 7 = .ok (.invokevirtual 42, 3) := by decide +kernel
theorem d_Me_readValue_10 : decode mi_Me_readValue.2.1 10 = .ok (.iload_n 3, 1) := by decide +kernel
theorem d_Me_readValue_11 : decode mi_Me_readValue.2.1 11 = .ok (.lookupswitch 117 #[(0, 57), (1, 60), (6, 79), (8, 88), (12, 98), (152, 106)], 57) := by decide +kernel
theorem d_Me_readValue_68 : decode mi_Me_readValue.2.1 68 = .ok (.goto 65, 3) := by decide +kernel
theorem d_Me_readValue_71 : decode mi_Me_readValue.2.1 71 = .ok (.aload_n 1, 1) := by decide +kernel
theorem d_Me_readValue_72 : decode mi_Me_readValue.2.1 72 = .ok (.aload_n 0, 1) := by decide +kernel
theorem d_Me_readValue_73 : decode mi_Me_readValue.2.1 73 = .ok (.invokevirtual 39, 3) := by decide +kernel
theorem d_Me_readValue_76 : decode mi_Me_readValue.2.1 76 = .ok (.ifCond .ne 7, 3) := by decide +kernel
theorem d_Me_readValue_79 : decode mi_Me_readValue.2.1 79 = .ok (.iconst 0, 1) := by decide +kernel
theorem d_Me_readValue_80 : decode mi_Me_readValue.2.1 80 = .ok (.goto 4, 3) := by decide +kernel
theorem d_Me_readValue_83 : decode mi_Me_readValue.2.1 83 = .ok (.iconst 1, 1) := by decide +kernel
theorem d_Me_readValue_84 : decode mi_Me_readValue.2.1 84 = .ok (.invokevirtual 42, 3) := by decide +kernel
theorem d_Me_readValue_87 : decode mi_Me_readValue.2.1 87 = .ok (.goto 46, 3) := by decide +kernel
theorem d_Me_readValue_90 : decode mi_Me_readValue.2.1 90 = .ok (.aload_n 0, 1) := by decide +kernel
theorem d_Me_readValue_91 : decode mi_Me_readValue.2.1 91 = .ok (.aload_n 1, 1) := by decide +kernel
theorem d_Me_readValue_92 : decode mi_Me_readValue.2.1 92 = .ok (.iconst 4, 1) := by decide +kernel
theorem d_Me_readValue_93 : decode mi_Me_readValue.2.1 93 = .ok (.invokevirtual 45, 3) := by decide +kernel
theorem d_Me_readValue_96 : decode mi_Me_readValue.2.1 96 = .ok (.goto 37, 3) := by decide +kernel
theorem d_Me_readValue_99 : decode mi_Me_readValue.2.1 99 = .ok (.aload_n 0, 1) := by decide +kernel
theorem d_Me_readValue_100 : decode mi_Me_readValue.2.1 100 = .ok (.aload_n 1, 1) := by decide +kernel
theorem d_Me_readValue_101 : decode mi_Me_readValue.2.1 101 = .ok (.bipush 8, 2) := by decide +kernel
theorem d_Me_readValue_103 : decode mi_Me_readValue.2.1 103 = .ok (.invokevirtual 45, 3) := by decide +kernel
theorem d_Me_readValue_106 : decode mi_Me_readValue.2.1 106 = .ok (.goto 27, 3) := by decide +kernel
theorem d_Me_readValue_109 : decode mi_Me_readValue.2.1 109 = .ok (.aload_n 0, 1) := by decide +kernel
theorem d_Me_readValue_110 : decode mi_Me_readValue.2.1 110 = .ok (.aload_n 1, 1) := by decide +kernel
theorem d_Me_readValue_111 : decode mi_Me_readValue.2.1 111 = .ok (.invokevirtual 49, 3) := by decide +kernel
theorem d_Me_readValue_114 : decode mi_Me_readValue.2.1 114 = .ok (.goto 19, 3) := by decide +kernel
theorem d_Me_readValue_117 : decode mi_Me_readValue.2.1 117 = .ok (.aload_n 0, 1) := by decide +kernel
theorem d_Me_readValue_118 : decode mi_Me_readValue.2.1 118 = .ok (.aload_n 1, 1) := by decide +kernel
theorem d_Me_readValue_119 : decode mi_Me_readValue.2.1 119 = .ok (.iload_n 2, 1) := by decide +kernel
theorem d_Me_readValue_120 : decode mi_Me_readValue.2.1 120 = .ok (.iconst 1, 1) := by decide +kernel
theorem d_Me_readValue_121 : decode mi_Me_readValue.2.1 121 = .ok (.iadd, 1) := by decide +kernel
theorem d_Me_readValue_122 : decode mi_Me_readValue.2.1 122 = .ok (.invokevirtual 53, 3) := by decide +kernel
theorem d_Me_readValue_125 : decode mi_Me_readValue.2.1 125 = .ok (.goto 8, 3) := by decide +kernel
theorem d_Me_readValue_128 : decode mi_Me_readValue.2.1 128 = .ok (.aload_n 0, 1) := by decide +kernel
theorem d_Me_readValue_129 : decode mi_Me_readValue.2.1 129 = .ok (.iconst 0, 1) := by decide +kernel
theorem d_Me_readValue_130 : decode mi_Me_readValue.2.1 130 = .ok (.putfield 24, 3) := by decide +kernel
theorem d_Me_readValue_133 : decode mi_Me_readValue.2.1 133 = .ok (.return_, 1) := by decide +kernel
theorem d_Me_moveBytes_0 : decode mi_Me_moveBytes.2.1 0 = .ok (.iconst 0, 1) := by decide +kernel
theorem d_Me_moveBytes_1 : decode mi_Me_moveBytes.2.1 1 = .ok (.istore_n 3, 1) := by decide +kernel
theorem d_Me_moveBytes_2 : decode mi_Me_moveBytes.2.1 2 = .ok (.iload_n 3, 1) := by decide +kernel
theorem d_Me_moveBytes_3 : decode mi_Me_moveBytes.2.1 3 = .ok (.iload_n 2, 1) := by decide +kernel
theorem d_Me_moveBytes_4 : decode mi_Me_moveBytes.2.1 4 = .ok (.if_icmp .ge 17, 3) := by decide +kernel
theorem d_Me_moveBytes_7 : decode mi_Me_moveBytes.2.1 7 = .ok (.aload_n 1, 1) := by decide +kernel
theorem d_Me_moveBytes_8 : decode mi_Me_moveBytes.2.1 8 = .ok (.aload_n 0, 1) := by decide +kernel
theorem d_Me_moveBytes_9 : decode mi_Me_moveBytes.2.1 9 = .ok (.invokevirtual 39, 3) := by decide +kernel
theorem d_Me_moveBytes_12 : decode mi_Me_moveBytes.2.1 12 = .ok (.invokevirtual 42, 3) := by decide +kernel
theorem d_Me_moveBytes_15 : decode mi_Me_moveBytes.2.1 15 = .ok (.iinc 3 1, 3) := by decide +kernel
theorem d_Me_moveBytes_18 : decode mi_Me_moveBytes.2.1 18 = .ok (.goto (-16), 3) := by decide +kernel
theorem d_Me_moveBytes_21 : decode mi_Me_moveBytes.2.1 21 = .ok (.return_, 1) := by decide +kernel
theorem d_Me_readText_0 : decode mi_Me_readText.2.1 0 = .ok (.aload_n 0, 1) := by decide +kernel
theorem d_Me_readText_1 : decode mi_Me_readText.2.1 1 = .ok (.invokevirtual 56, 3) := by decide +kernel
theorem d_Me_readText_4 : decode mi_Me_readText.2.1 4 = .ok (.istore_n 2, 1) := by decide +kernel
theorem d_Me_readText_5 : decode mi_Me_readText.2.1 5 = .ok (.aload_n 1, 1) := by decide +kernel
theorem d_Me_readText_6 : decode mi_Me_readText.2.1 6 = .ok (.iload_n 2, 1) := by decide +kernel
theorem d_Me_readText_7 : decode mi_Me_readText.2.1 7 = .ok (.i2l, 1) := by decide +kernel
theorem d_Me_readText_8 : decode mi_Me_readText.2.1 8 = .ok (.iconst 4, 1) := by decide +kernel
theorem d_Me_readText_9 : decode mi_Me_readText.2.1 9 = .ok (.invokevirtual 59, 3) := by decide +kernel
theorem d_Me_readText_12 : decode mi_Me_readText.2.1 12 = .ok (.iload_n 2, 1) := by decide +kernel
theorem d_Me_readText_13 : decode mi_Me_readText.2.1 13 = .ok (.iconst (-1), 1) := by decide +kernel
theorem d_Me_readText_14 : decode mi_Me_readText.2.1 14 = .ok (.if_icmp .lt 11, 3) := by decide +kernel
theorem d_Me_readText_17 : decode mi_Me_readText.2.1 17 = .ok (.iload_n 2, 1) := by decide +kernel
theorem d_Me_readText_18 : decode mi_Me_readText.2.1 18 = .ok (.aload_n 0, 1) := by decide +kernel
theorem d_Me_readText_19 : decode mi_Me_readText.2.1 19 = .ok (.invokevirtual 31, 3) := by decide +kernel
theorem d_Me_readText_22 : decode mi_Me_readText.2.1 22 = .ok (.if_icmp .le 9, 3) := by decide +kernel
theorem d_Me_readText_25 : decode mi_Me_readText.2.1 25 = .ok (.aload_n 0, 1) := by decide +kernel
theorem d_Me_readText_26 : decode mi_Me_readText.2.1 26 = .ok (.iconst 0, 1) := by decide +kernel
theorem d_Me_readText_27 : decode mi_Me_readText.2.1 27 = .ok (.putfield 24, 3) := by decide +kernel
theorem d_Me_readText_30 : decode mi_Me_readText.2.1 30 = .ok (.return_, 1) := by decide +kernel
theorem d_Me_readText_31 : decode mi_Me_readText.2.1 31 = .ok (.aload_n 0, 1) := by decide +kernel
theorem d_Me_readText_32 : decode mi_Me_readText.2.1 32 = .ok (.aload_n 1, 1) := by decide +kernel
theorem d_Me_readText_33 : decode mi_Me_readText.2.1 33 = .ok (.iload_n 2, 1) := by decide +kernel
theorem d_Me_readText_34 : decode mi_Me_readText.2.1 34 = .ok (.invokevirtual 45, 3) := by decide +kernel
theorem d_Me_readText_37 : decode mi_Me_readText.2.1 37 = .ok (.return_, 1) := by decide +kernel
theorem d_Me_readNumber_0 : decode mi_Me_readNumber.2.1 0 = .ok (.aload_n 0, 1) := by decide +kernel
theorem d_Me_readNumber_1 : decode mi_Me_readNumber.2.1 1 = .ok (.invokevirtual 39, 3) := by decide +kernel
theorem d_Me_readNumber_4 : decode mi_Me_readNumber.2.1 4 = .ok (.aload_n 0, 1) := by decide +kernel
theorem d_Me_readNumber_5 : decode mi_Me_readNumber.2.1 5 = .ok (.invokevirtual 39, 3) := by decide +kernel
theorem d_Me_readNumber_8 : decode mi_Me_readNumber.2.1 8 = .ok (.bipush 8, 2) := by decide +kernel
theorem d_Me_readNumber_10 : decode mi_Me_readNumber.2.1 10 = .ok (.ishl, 1) := by decide +kernel
theorem d_Me_readNumber_11 : decode mi_Me_readNumber.2.1 11 = .ok (.ior, 1) := by decide +kernel
theorem d_Me_readNumber_12 : decode mi_Me_readNumber.2.1 12 = .ok (.istore_n 1, 1) := by decide +kernel
theorem d_Me_readNumber_13 : decode mi_Me_readNumber.2.1 13 = .ok (.iload_n 1, 1) := by decide +kernel
theorem d_Me_readNumber_14 : decode mi_Me_readNumber.2.1 14 = .ok (.aload_n 0, 1) := by decide +kernel
theorem d_Me_readNumber_15 : decode mi_Me_readNumber.2.1 15 = .ok (.invokevirtual 39, 3) := by decide +kernel
theorem d_Me_readNumber_18 : decode mi_Me_readNumber.2.1 18 = .ok (.bipush 16, 2) := by decide +kernel
theorem d_Me_readNumber_20 : decode mi_Me_readNumber.2.1 20 = .ok (.ishl, 1) := by decide +kernel
theorem d_Me_readNumber_21 : decode mi_Me_readNumber.2.1 21 = .ok (.ior, 1) := by decide +kernel
theorem d_Me_readNumber_22 : decode mi_Me_readNumber.2.1 22 = .ok (.aload_n 0, 1) := by decide +kernel
theorem d_Me_readNumber_23 : decode mi_Me_readNumber.2.1 23 = .ok (.invokevirtual 39, 3) := by decide +kernel
theorem d_Me_readNumber_26 : decode mi_Me_readNumber.2.1 26 = .ok (.bipush 24, 2) := by decide +kernel
theorem d_Me_readNumber_28 : decode mi_Me_readNumber.2.1 28 = .ok (.ishl, 1) := by decide +kernel
theorem d_Me_readNumber_29 : decode mi_Me_readNumber.2.1 29 = .ok (.ior, 1) := by decide +kernel
theorem d_Me_readNumber_30 : decode mi_Me_readNumber.2.1 30 = .ok (.ireturn, 1) := by decide +kernel
theorem d_Me_readList_0 : decode mi_Me_readList.2.1 0 = .ok (.aload_n 0, 1) := by decide +kernel
theorem d_Me_readList_1 : decode mi_Me_readList.2.1 1 = .ok (.invokevirtual 56, 3) := by decide +kernel
theorem d_Me_readList_4 : decode mi_Me_readList.2.1 4 = .ok (.istore_n 3, 1) := by decide +kernel
theorem d_Me_readList_5 : decode mi_Me_readList.2.1 5 = .ok (.aload_n 1, 1) := by decide +kernel
theorem d_Me_readList_6 : decode mi_Me_readList.2.1 6 = .ok (.iload_n 3, 1) := by decide +kernel
theorem d_Me_readList_7 : decode mi_Me_readList.2.1 7 = .ok (.i2l, 1) := by decide +kernel
theorem d_Me_readList_8 : decode mi_Me_readList.2.1 8 = .ok (.iconst 4, 1) := by decide +kernel
theorem d_Me_readList_9 : decode mi_Me_readList.2.1 9 = .ok (.invokevirtual 59, 3) := by decide +kernel
theorem d_Me_readList_12 : decode mi_Me_readList.2.1 12 = .ok (.iload_n 2, 1) := by decide +kernel
theorem d_Me_readList_13 : decode mi_Me_readList.2.1 13 = .ok (.iconst 3, 1) := by decide +kernel
theorem d_Me_readList_14 : decode mi_Me_readList.2.1 14 = .ok (.if_icmp .gt 15, 3) := by decide +kernel
theorem d_Me_readList_17 : decode mi_Me_readList.2.1 17 = .ok (.iload_n 3, 1) := by decide +kernel
theorem d_Me_readList_18 : decode mi_Me_readList.2.1 18 = .ok (.ifCond .lt 11, 3) := by decide +kernel
theorem d_Me_readList_21 : decode mi_Me_readList.2.1 21 = .ok (.iload_n 3, 1) := by decide +kernel
theorem d_Me_readList_22 : decode mi_Me_readList.2.1 22 = .ok (.aload_n 0, 1) := by decide +kernel
theorem d_Me_readList_23 : decode mi_Me_readList.2.1 23 = .ok (.invokevirtual 31, 3) := by decide +kernel
theorem d_Me_readList_26 : decode mi_Me_readList.2.1 26 = .ok (.if_icmp .le 9, 3) := by decide +kernel
theorem d_Me_readList_29 : decode mi_Me_readList.2.1 29 = .ok (.aload_n 0, 1) := by decide +kernel
theorem d_Me_readList_30 : decode mi_Me_readList.2.1 30 = .ok (.iconst 0, 1) := by decide +kernel
theorem d_Me_readList_31 : decode mi_Me_readList.2.1 31 = .ok (.putfield 24, 3) := by decide +kernel
theorem d_Me_readList_34 : decode mi_Me_readList.2.1 34 = .ok (.return_, 1) := by decide +kernel
theorem d_Me_readList_35 : decode mi_Me_readList.2.1 35 = .ok (.iconst 0, 1) := by decide +kernel
theorem d_Me_readList_36 : decode mi_Me_readList.2.1 36 = .ok (.istore 4, 2) := by decide +kernel
theorem d_Me_readList_38 : decode mi_Me_readList.2.1 38 = .ok (.iload 4, 2) := by decide +kernel
theorem d_Me_readList_40 : decode mi_Me_readList.2.1 40 = .ok (.iload_n 3, 1) := by decide +kernel
theorem d_Me_readList_41 : decode mi_Me_readList.2.1 41 = .ok (.if_icmp .ge 22, 3) := by decide +kernel
theorem d_Me_readList_44 : decode mi_Me_readList.2.1 44 = .ok (.aload_n 0, 1) := by decide +kernel
theorem d_Me_readList_45 : decode mi_Me_readList.2.1 45 = .ok (.getfield 24, 3) := by decide +kernel
theorem d_Me_readList_48 : decode mi_Me_readList.2.1 48 = .ok (.ifCond .eq 15, 3) := by decide +kernel
theorem d_Me_readList_51 : decode mi_Me_readList.2.1 51 = .ok (.aload_n 0, 1) := by decide +kernel
theorem d_Me_readList_52 : decode mi_Me_readList.2.1 52 = .ok (.aload_n 1, 1) := by decide +kernel
theorem d_Me_readList_53 : decode mi_Me_readList.2.1 53 = .ok (.iload_n 2, 1) := by decide +kernel
theorem d_Me_readList_54 : decode mi_Me_readList.2.1 54 = .ok (.invokevirtual 63, 3) := by decide +kernel
theorem d_Me_readList_57 : decode mi_Me_readList.2.1 57 = .ok (.iinc 4 1, 3) := by decide +kernel
theorem d_Me_readList_60 : decode mi_Me_readList.2.1 60 = .ok (.goto (-22), 3) := by decide +kernel
theorem d_Me_readList_63 : decode mi_Me_readList.2.1 63 = .ok (.return_, 1) := by decide +kernel
theorem d_By_at_0 : decode mi_By_at.2.1 0 = .ok (.iload_n 1, 1) := by decide +kernel
theorem d_By_at_1 : decode mi_By_at.2.1 1 = .ok (.ifCond .lt 24, 3) := by decide +kernel
theorem d_By_at_4 : decode mi_By_at.2.1 4 = .ok (.iload_n 1, 1) := by decide +kernel
theorem d_By_at_5 : decode mi_By_at.2.1 5 = .ok (.aload_n 0, 1) := by decide +kernel
theorem d_By_at_6 : decode mi_By_at.2.1 6 = .ok (.getfield 13, 3) := by decide +kernel
theorem d_By_at_9 : decode mi_By_at.2.1 9 = .ok (.if_icmp .ge 16, 3) := by decide +kernel
theorem d_By_at_12 : decode mi_By_at.2.1 12 = .ok (.aload_n 0, 1) := by decide +kernel
theorem d_By_at_13 : decode mi_By_at.2.1 13 = .ok (.getfield 7, 3) := by decide +kernel
theorem d_By_at_16 : decode mi_By_at.2.1 16 = .ok (.iload_n 1, 1) := by decide +kernel
theorem d_By_at_17 : decode mi_By_at.2.1 17 = .ok (.baload, 1) := by decide +kernel
theorem d_By_at_18 : decode mi_By_at.2.1 18 = .ok (.sipush 255, 3) := by decide +kernel
theorem d_By_at_21 : decode mi_By_at.2.1 21 = .ok (.iand, 1) := by decide +kernel
theorem d_By_at_22 : decode mi_By_at.2.1 22 = .ok (.goto 4, 3) := by decide +kernel
theorem d_By_at_25 : decode mi_By_at.2.1 25 = .ok (.iconst 0, 1) := by decide +kernel
theorem d_By_at_26 : decode mi_By_at.2.1 26 = .ok (.ireturn, 1) := by decide +kernel
theorem d_By_set_0 : decode mi_By_set.2.1 0 = .ok (.iload_n 1, 1) := by decide +kernel
theorem d_By_set_1 : decode mi_By_set.2.1 1 = .ok (.ifCond .lt 19, 3) := by decide +kernel
theorem d_By_set_4 : decode mi_By_set.2.1 4 = .ok (.iload_n 1, 1) := by decide +kernel
theorem d_By_set_5 : decode mi_By_set.2.1 5 = .ok (.aload_n 0, 1) := by decide +kernel
theorem d_By_set_6 : decode mi_By_set.2.1 6 = .ok (.getfield 13, 3) := by decide +kernel
theorem d_By_set_9 : decode mi_By_set.2.1 9 = .ok (.if_icmp .ge 11, 3) := by decide +kernel
theorem d_By_set_12 : decode mi_By_set.2.1 12 = .ok (.aload_n 0, 1) := by decide +kernel
theorem d_By_set_13 : decode mi_By_set.2.1 13 = .ok (.getfield 7, 3) := by decide +kernel
theorem d_By_set_16 : decode mi_By_set.2.1 16 = .ok (.iload_n 1, 1) := by decide +kernel
theorem d_By_set_17 : decode mi_By_set.2.1 17 = .ok (.iload_n 2, 1) := by decide +kernel
theorem d_By_set_18 : decode mi_By_set.2.1 18 = .ok (.i2b, 1) := by decide +kernel
theorem d_By_set_19 : decode mi_By_set.2.1 19 = .ok (.bastore, 1) := by decide +kernel
theorem d_By_set_20 : decode mi_By_set.2.1 20 = .ok (.return_, 1) := by decide +kernel
theorem d_It_watch_0 : decode mi_It_watch.2.1 0 = .ok (.aload_n 0, 1) := by decide +kernel
theorem d_It_watch_1 : decode mi_It_watch.2.1 1 = .ok (.iload_n 1, 1) := by decide +kernel
theorem d_It_watch_2 : decode mi_It_watch.2.1 2 = .ok (.putfield 22, 3) := by decide +kernel
theorem d_It_watch_5 : decode mi_It_watch.2.1 5 = .ok (.aload_n 0, 1) := by decide +kernel
theorem d_It_watch_6 : decode mi_It_watch.2.1 6 = .ok (.iload_n 2, 1) := by decide +kernel
theorem d_It_watch_7 : decode mi_It_watch.2.1 7 = .ok (.putfield 17, 3) := by decide +kernel
theorem d_It_watch_10 : decode mi_It_watch.2.1 10 = .ok (.aload_n 0, 1) := by decide +kernel
theorem d_It_watch_11 : decode mi_It_watch.2.1 11 = .ok (.iload_n 3, 1) := by decide +kernel
theorem d_It_watch_12 : decode mi_It_watch.2.1 12 = .ok (.putfield 25, 3) := by decide +kernel
theorem d_It_watch_15 : decode mi_It_watch.2.1 15 = .ok (.aload_n 0, 1) := by decide +kernel
theorem d_It_watch_16 : decode mi_It_watch.2.1 16 = .ok (.iconst 0, 1) := by decide +kernel
theorem d_It_watch_17 : decode mi_It_watch.2.1 17 = .ok (.putfield 29, 3) := by decide +kernel
theorem d_It_watch_20 : decode mi_It_watch.2.1 20 = .ok (.return_, 1) := by decide +kernel
end
section
theorem d_Sf_init_0 : decode mi_Sf_init.2.1 0 = .ok (.aload_n 0, 1) := by decide +kernel
theorem d_Sf_init_1 : decode mi_Sf_init.2.1 1 = .ok (.invokespecial 3, 3) := by decide +kernel
theorem d_Sf_init_4 : decode mi_Sf_init.2.1 4 = .ok (.aload_n 0, 1) := by decide +kernel
theorem d_Sf_init_5 : decode mi_Sf_init.2.1 5 = .ok (.iconst 3, 1) := by decide +kernel
theorem d_Sf_init_6 : decode mi_Sf_init.2.1 6 = .ok (.anewarray 9, 3) := by decide +kernel
theorem d_Sf_init_9 : decode mi_Sf_init.2.1 9 = .ok (.putfield 11, 3) := by decide +kernel
theorem d_Sf_init_12 : decode mi_Sf_init.2.1 12 = .ok (.iconst 0, 1) := by decide +kernel
theorem d_Sf_init_13 : decode mi_Sf_init.2.1 13 = .ok (.istore_n 1, 1) := by decide +kernel
theorem d_Sf_init_14 : decode mi_Sf_init.2.1 14 = .ok (.iload_n 1, 1) := by decide +kernel
theorem d_Sf_init_15 : decode mi_Sf_init.2.1 15 = .ok (.iconst 3, 1) := by decide +kernel
theorem d_Sf_init_16 : decode mi_Sf_init.2.1 16 = .ok (.if_icmp .ge 22, 3) := by decide +kernel
theorem d_Sf_init_19 : decode mi_Sf_init.2.1 19 = .ok (.aload_n 0, 1) := by decide +kernel
theorem d_Sf_init_20 : decode mi_Sf_init.2.1 20 = .ok (.getfield 11, 3) := by decide +kernel
theorem d_Sf_init_23 : decode mi_Sf_init.2.1 23 = .ok (.iload_n 1, 1) := by decide +kernel
theorem d_Sf_init_24 : decode mi_Sf_init.2.1 24 = .ok (.new 9, 3) := by decide +kernel
theorem d_Sf_init_27 : decode mi_Sf_init.2.1 27 = .ok (.dup, 1) := by decide +kernel
theorem d_Sf_init_28 : decode mi_Sf_init.2.1 28 = .ok (.invokespecial 17, 3) := by decide +kernel
theorem d_Sf_init_31 : decode mi_Sf_init.2.1 31 = .ok (.aastore, 1) := by decide +kernel
theorem d_Sf_init_32 : decode mi_Sf_init.2.1 32 = .ok (.iinc 1 1, 3) := by decide +kernel
theorem d_Sf_init_35 : decode mi_Sf_init.2.1 35 = .ok (.goto (-21), 3) := by decide +kernel
theorem d_Sf_init_38 : decode mi_Sf_init.2.1 38 = .ok (.return_, 1) := by decide +kernel
theorem d_Pa_init_0 : decode mi_Pa_init.2.1 0 = .ok (.aload_n 0, 1) := by decide +kernel
theorem d_Pa_init_1 : decode mi_Pa_init.2.1 1 = .ok (.invokespecial 3, 3) := by decide +kernel
theorem d_Pa_init_4 : decode mi_Pa_init.2.1 4 = .ok (.aload_n 0, 1) := by decide +kernel
theorem d_Pa_init_5 : decode mi_Pa_init.2.1 5 = .ok (.new 9, 3) := by decide +kernel
theorem d_Pa_init_8 : decode mi_Pa_init.2.1 8 = .ok (.dup, 1) := by decide +kernel
theorem d_Pa_init_9 : decode mi_Pa_init.2.1 9 = .ok (.sipush 194, 3) := by decide +kernel
theorem d_Pa_init_12 : decode mi_Pa_init.2.1 12 = .ok (.invokespecial 11, 3) := by decide +kernel
theorem d_Pa_init_15 : decode mi_Pa_init.2.1 15 = .ok (.putfield 14, 3) := by decide +kernel
theorem d_Pa_init_18 : decode mi_Pa_init.2.1 18 = .ok (.return_, 1) := by decide +kernel
theorem d_No_init_0 : decode mi_No_init.2.1 0 = .ok (.aload_n 0, 1) := by decide +kernel
theorem d_No_init_1 : decode mi_No_init.2.1 1 = .ok (.invokespecial 3, 3) := by decide +kernel
theorem d_No_init_4 : decode mi_No_init.2.1 4 = .ok (.aload_n 0, 1) := by decide +kernel
theorem d_No_init_5 : decode mi_No_init.2.1 5 = .ok (.new 9, 3) := by decide +kernel
theorem d_No_init_8 : decode mi_No_init.2.1 8 = .ok (.dup, 1) := by decide +kernel
theorem d_No_init_9 : decode mi_No_init.2.1 9 = .ok (.bipush 61, 2) := by decide +kernel
theorem d_No_init_11 : decode mi_No_init.2.1 11 = .ok (.invokespecial 11, 3) := by decide +kernel
theorem d_No_init_14 : decode mi_No_init.2.1 14 = .ok (.putfield 14, 3) := by decide +kernel
theorem d_No_init_17 : decode mi_No_init.2.1 17 = .ok (.return_, 1) := by decide +kernel
theorem d_Nt_init_0 : decode mi_Nt_init.2.1 0 = .ok (.aload_n 0, 1) := by decide +kernel
theorem d_Nt_init_1 : decode mi_Nt_init.2.1 1 = .ok (.invokespecial 3, 3) := by decide +kernel
theorem d_Nt_init_4 : decode mi_Nt_init.2.1 4 = .ok (.aload_n 0, 1) := by decide +kernel
theorem d_Nt_init_5 : decode mi_Nt_init.2.1 5 = .ok (.new 9, 3) := by decide +kernel
theorem d_Nt_init_8 : decode mi_Nt_init.2.1 8 = .ok (.dup, 1) := by decide +kernel
theorem d_Nt_init_9 : decode mi_Nt_init.2.1 9 = .ok (.bipush 61, 2) := by decide +kernel
theorem d_Nt_init_11 : decode mi_Nt_init.2.1 11 = .ok (.invokespecial 11, 3) := by decide +kernel
theorem d_Nt_init_14 : decode mi_Nt_init.2.1 14 = .ok (.putfield 14, 3) := by decide +kernel
theorem d_Nt_init_17 : decode mi_Nt_init.2.1 17 = .ok (.return_, 1) := by decide +kernel
theorem d_No_become_0 : decode mi_No_become.2.1 0 = .ok (.aload_n 0, 1) := by decide +kernel
theorem d_No_become_1 : decode mi_No_become.2.1 1 = .ok (.iload_n 1, 1) := by decide +kernel
theorem d_No_become_2 : decode mi_No_become.2.1 2 = .ok (.putfield 20, 3) := by decide +kernel
theorem d_No_become_5 : decode mi_No_become.2.1 5 = .ok (.aload_n 0, 1) := by decide +kernel
theorem d_No_become_6 : decode mi_No_become.2.1 6 = .ok (.iload_n 2, 1) := by decide +kernel
theorem d_No_become_7 : decode mi_No_become.2.1 7 = .ok (.putfield 24, 3) := by decide +kernel
theorem d_No_become_10 : decode mi_No_become.2.1 10 = .ok (.iload_n 2, 1) := by decide +kernel
theorem d_No_become_11 : decode mi_No_become.2.1 11 = .ok (.iconst (-1), 1) := by decide +kernel
theorem d_No_become_12 : decode mi_No_become.2.1 12 = .ok (.if_icmp .ne 4, 3) := by decide +kernel
theorem d_No_become_15 : decode mi_No_become.2.1 15 = .ok (.return_, 1) := by decide +kernel
theorem d_No_become_16 : decode mi_No_become.2.1 16 = .ok (.aload_n 0, 1) := by decide +kernel
theorem d_No_become_17 : decode mi_No_become.2.1 17 = .ok (.getfield 14, 3) := by decide +kernel
theorem d_No_become_20 : decode mi_No_become.2.1 20 = .ok (.iload_n 2, 1) := by decide +kernel
theorem d_No_become_21 : decode mi_No_become.2.1 21 = .ok (.invokevirtual 27, 3) := by decide +kernel
theorem d_No_become_24 : decode mi_No_become.2.1 24 = .ok (.iload_n 2, 1) := by decide +kernel
theorem d_No_become_25 : decode mi_No_become.2.1 25 = .ok (.iconst 1, 1) := by decide +kernel
theorem d_No_become_26 : decode mi_No_become.2.1 26 = .ok (.if_icmp .ne 14, 3) := by decide +kernel
theorem d_No_become_29 : decode mi_No_become.2.1 29 = .ok (.aload_n 0, 1) := by decide +kernel
theorem d_No_become_30 : decode mi_No_become.2.1 30 = .ok (.getfield 14, 3) := by decide +kernel
theorem d_No_become_33 : decode mi_No_become.2.1 33 = .ok (.iconst 0, 1) := by decide +kernel
theorem d_No_become_34 : decode mi_No_become.2.1 34 = .ok (.invokevirtual 27, 3) := by decide +kernel
theorem d_No_become_37 : decode mi_No_become.2.1 37 = .ok (.goto 57, 3) := by decide +kernel
theorem d_No_become_40 : decode mi_No_become.2.1 40 = .ok (.iload_n 2, 1) := by decide +kernel
theorem d_No_become_41 : decode mi_No_become.2.1 41 = .ok (.bipush 6, 2) := by decide +kernel
theorem d_No_become_43 : decode mi_No_become.2.1 43 = .ok (.if_icmp .ne 15, 3) := by decide +kernel
theorem d_No_become_46 : decode mi_No_become.2.1 46 = .ok (.aload_n 0, 1) := by decide +kernel
theorem d_No_become_47 : decode mi_No_become.2.1 47 = .ok (.getfield 14, 3) := by decide +kernel
theorem d_No_become_50 : decode mi_No_become.2.1 50 = .ok (.lconst 0, 1) := by decide +kernel
theorem d_No_become_51 : decode mi_No_become.2.1 51 = .ok (.iconst 4, 1) := by decide +kernel
theorem d_No_become_52 : decode mi_No_become.2.1 52 = .ok (.invokevirtual 30, 3) := by decide +kernel
theorem d_No_become_55 : decode mi_No_become.2.1 55 = .ok (.goto 39, 3) := by decide +kernel
theorem d_No_become_58 : decode mi_No_become.2.1 58 = .ok (.iload_n 2, 1) := by decide +kernel
theorem d_No_become_59 : decode mi_No_become.2.1 59 = .ok (.bipush 8, 2) := by decide +kernel
theorem d_No_become_61 : decode mi_No_become.2.1 61 = .ok (.if_icmp .ne 16, 3) := by decide +kernel
theorem d_No_become_64 : decode mi_No_become.2.1 64 = .ok (.aload_n 0, 1) := by decide +kernel
theorem d_No_become_65 : decode mi_No_become.2.1 65 = .ok (.getfield 14, 3) := by decide +kernel
theorem d_No_become_68 : decode mi_No_become.2.1 68 = .ok (.lconst 0, 1) := by decide +kernel
theorem d_No_become_69 : decode mi_No_become.2.1 69 = .ok (.bipush 8, 2) := by decide +kernel
theorem d_No_become_71 : decode mi_No_become.2.1 71 = .ok (.invokevirtual 30, 3) := by decide +kernel
theorem d_No_become_74 : decode mi_No_become.2.1 74 = .ok (.goto 20, 3) := by decide +kernel
theorem d_No_become_77 : decode mi_No_become.2.1 77 = .ok (.iload_n 2, 1) := by decide +kernel
theorem d_No_become_78 : decode mi_No_become.2.1 78 = .ok (.bipush 12, 2) := by decide +kernel
theorem d_No_become_80 : decode mi_No_become.2.1 80 = .ok (.if_icmp .ne 14, 3) := by decide +kernel
theorem d_No_become_83 : decode mi_No_become.2.1 83 = .ok (.aload_n 0, 1) := by decide +kernel
theorem d_No_become_84 : decode mi_No_become.2.1 84 = .ok (.getfield 14, 3) := by decide +kernel
theorem d_No_become_87 : decode mi_No_become.2.1 87 = .ok (.ldc2_w 34, 3) := by decide +kernel
theorem d_No_become_90 : decode mi_No_become.2.1 90 = .ok (.iconst 4, 1) := by decide +kernel
theorem d_No_become_91 : decode mi_No_become.2.1 91 = .ok (.invokevirtual 30, 3) := by decide +kernel
theorem d_No_become_94 : decode mi_No_become.2.1 94 = .ok (.return_, 1) := by decide +kernel
theorem d_Sf_restart_0 : decode mi_Sf_restart.2.1 0 = .ok (.aload_n 0, 1) := by decide +kernel
theorem d_Sf_restart_1 : decode mi_Sf_restart.2.1 1 = .ok (.iconst 0, 1) := by decide +kernel
theorem d_Sf_restart_2 : decode mi_Sf_restart.2.1 2 = .ok (.putfield 18, 3) := by decide +kernel
theorem d_Sf_restart_5 : decode mi_Sf_restart.2.1 5 = .ok (.aload_n 0, 1) := by decide +kernel
theorem d_Sf_restart_6 : decode mi_Sf_restart.2.1 6 = .ok (.iconst 0, 1) := by decide +kernel
theorem d_Sf_restart_7 : decode mi_Sf_restart.2.1 7 = .ok (.putfield 22, 3) := by decide +kernel
theorem d_Sf_restart_10 : decode mi_Sf_restart.2.1 10 = .ok (.return_, 1) := by decide +kernel
theorem d_Sf_drop_0 : decode mi_Sf_drop.2.1 0 = .ok (.aload_n 0, 1) := by decide +kernel
theorem d_Sf_drop_1 : decode mi_Sf_drop.2.1 1 = .ok (.iload_n 1, 1) := by decide +kernel
theorem d_Sf_drop_2 : decode mi_Sf_drop.2.1 2 = .ok (.invokevirtual 28, 3) := by decide +kernel
theorem d_Sf_drop_5 : decode mi_Sf_drop.2.1 5 = .ok (.istore_n 2, 1) := by decide +kernel
theorem d_Sf_drop_6 : decode mi_Sf_drop.2.1 6 = .ok (.iload_n 2, 1) := by decide +kernel
theorem d_Sf_drop_7 : decode mi_Sf_drop.2.1 7 = .ok (.ifCond .lt 8, 3) := by decide +kernel
theorem d_Sf_drop_10 : decode mi_Sf_drop.2.1 10 = .ok (.aload_n 0, 1) := by decide +kernel
theorem d_Sf_drop_11 : decode mi_Sf_drop.2.1 11 = .ok (.iload_n 2, 1) := by decide +kernel
theorem d_Sf_drop_12 : decode mi_Sf_drop.2.1 12 = .ok (.invokevirtual 32, 3) := by decide +kernel
theorem d_Sf_drop_15 : decode mi_Sf_drop.2.1 15 = .ok (.return_, 1) := by decide +kernel
theorem d_Sf_find_0 : decode mi_Sf_find.2.1 0 = .ok (.iconst 0, 1) := by decide +kernel
theorem d_Sf_find_1 : decode mi_Sf_find.2.1 1 = .ok (.istore_n 2, 1) := by decide +kernel
theorem d_Sf_find_2 : decode mi_Sf_find.2.1 2 = .ok (.iload_n 2, 1) := by decide +kernel
theorem d_Sf_find_3 : decode mi_Sf_find.2.1 3 = .ok (.aload_n 0, 1) := by decide +kernel
theorem d_Sf_find_4 : decode mi_Sf_find.2.1 4 = .ok (.getfield 18, 3) := by decide +kernel
theorem d_Sf_find_7 : decode mi_Sf_find.2.1 7 = .ok (.if_icmp .ge 24, 3) := by decide +kernel
theorem d_Sf_find_10 : decode mi_Sf_find.2.1 10 = .ok (.aload_n 0, 1) := by decide +kernel
theorem d_Sf_find_11 : decode mi_Sf_find.2.1 11 = .ok (.getfield 11, 3) := by decide +kernel
theorem d_Sf_find_14 : decode mi_Sf_find.2.1 14 = .ok (.iload_n 2, 1) := by decide +kernel
theorem d_Sf_find_15 : decode mi_Sf_find.2.1 15 = .ok (.aaload, 1) := by decide +kernel
theorem d_Sf_find_16 : decode mi_Sf_find.2.1 16 = .ok (.getfield 25, 3) := by decide +kernel
theorem d_Sf_find_19 : decode mi_Sf_find.2.1 19 = .ok (.iload_n 1, 1) := by decide +kernel
theorem d_Sf_find_20 : decode mi_Sf_find.2.1 20 = .ok (.if_icmp .ne 5, 3) := by decide +kernel
theorem d_Sf_find_23 : decode mi_Sf_find.2.1 23 = .ok (.iload_n 2, 1) := by decide +kernel
theorem d_Sf_find_24 : decode mi_Sf_find.2.1 24 = .ok (.ireturn, 1) := by decide +kernel
theorem d_Sf_find_25 : decode mi_Sf_find.2.1 25 = .ok (.iinc 2 1, 3) := by decide +kernel
theorem d_Sf_find_28 : decode mi_Sf_find.2.1 28 = .ok (.goto (-26), 3) := by decide +kernel
theorem d_Sf_find_31 : decode mi_Sf_find.2.1 31 = .ok (.iconst (-1), 1) := by decide +kernel
theorem d_Sf_find_32 : decode mi_Sf_find.2.1 32 = .ok (.ireturn, 1) := by decide +kernel
theorem d_Sf_removeAt_0 : decode mi_Sf_removeAt.2.1 0 = .ok (.aload_n 0, 1) := by decide +kernel
theorem d_Sf_removeAt_1 : decode mi_Sf_removeAt.2.1 1 = .ok (.getfield 11, 3) := by decide +kernel
theorem d_Sf_removeAt_4 : decode mi_Sf_removeAt.2.1 4 = .ok (.iload_n 1, 1) := by decide +kernel
theorem d_Sf_removeAt_5 : decode mi_Sf_removeAt.2.1 5 = .ok (.aaload, 1) := by decide +kernel
theorem d_Sf_removeAt_6 : decode mi_Sf_removeAt.2.1 6 = .ok (.astore_n 2, 1) := by decide +kernel
theorem d_Sf_removeAt_7 : decode mi_Sf_removeAt.2.1 7 = .ok (.iload_n 1, 1) := by decide +kernel
theorem d_Sf_removeAt_8 : decode mi_Sf_removeAt.2.1 8 = .ok (.iconst 1, 1) := by decide +kernel
theorem d_Sf_removeAt_9 : decode mi_Sf_removeAt.2.1 9 = .ok (.iadd, 1) := by decide +kernel
theorem d_Sf_removeAt_10 : decode mi_Sf_removeAt.2.1 10 = .ok (.istore_n 3, 1) := by decide +kernel
theorem d_Sf_removeAt_11 : decode mi_Sf_removeAt.2.1 11 = .ok (.iload_n 3, 1) := by decide +kernel
theorem d_Sf_removeAt_12 : decode mi_Sf_removeAt.2.1 12 = .ok (.aload_n 0, 1) := by decide +kernel
theorem d_Sf_removeAt_13 : decode mi_Sf_removeAt.2.1 13 = .ok (.getfield 18, 3) := by decide +kernel
theorem d_Sf_removeAt_16 : decode mi_Sf_removeAt.2.1 16 = .ok (.if_icmp .ge 23, 3) := by decide +kernel
theorem d_Sf_removeAt_19 : decode mi_Sf_removeAt.2.1 19 = .ok (.aload_n 0, 1) := by decide +kernel
theorem d_Sf_removeAt_20 : decode mi_Sf_removeAt.2.1 20 = .ok (.getfield 11, 3) := by decide +kernel
theorem d_Sf_removeAt_23 : decode mi_Sf_removeAt.2.1 23 = .ok (.iload_n 3, 1) := by decide +kernel
theorem d_Sf_removeAt_24 : decode mi_Sf_removeAt.2.1 24 = .ok (.iconst 1, 1) := by decide +kernel
theorem d_Sf_removeAt_25 : decode mi_Sf_removeAt.2.1 25 = .ok (.isub, 1) := by decide +kernel
theorem d_Sf_removeAt_26 : decode mi_Sf_removeAt.2.1 26 = .ok (.aload_n 0, 1) := by decide +kernel
theorem d_Sf_removeAt_27 : decode mi_Sf_removeAt.2.1 27 = .ok (.getfield 11, 3) := by decide +kernel
theorem d_Sf_removeAt_30 : decode mi_Sf_removeAt.2.1 30 = .ok (.iload_n 3, 1) := by decide +kernel
theorem d_Sf_removeAt_31 : decode mi_Sf_removeAt.2.1 31 = .ok (.aaload, 1) := by decide +kernel
theorem d_Sf_removeAt_32 : decode mi_Sf_removeAt.2.1 32 = .ok (.aastore, 1) := by decide +kernel
theorem d_Sf_removeAt_33 : decode mi_Sf_removeAt.2.1 33 = .ok (.iinc 3 1, 3) := by decide +kernel
theorem d_Sf_removeAt_36 : decode mi_Sf_removeAt.2.1 36 = .ok (.goto (-25), 3) := by decide +kernel
theorem d_Sf_removeAt_39 : decode mi_Sf_removeAt.2.1 39 = .ok (.aload_n 0, 1) := by decide +kernel
theorem d_Sf_removeAt_40 : decode mi_Sf_removeAt.2.1 40 = .ok (.dup, 1) := by decide +kernel
theorem d_Sf_removeAt_41 : decode mi_Sf_removeAt.2.1 41 = .ok (.getfield 18, 3) := by decide +kernel
theorem d_Sf_removeAt_44 : decode mi_Sf_removeAt.2.1 44 = .ok (.iconst 1, 1) := by decide +kernel
theorem d_Sf_removeAt_45 : decode mi_Sf_removeAt.2.1 45 = .ok (.isub, 1) := by decide +kernel
theorem d_Sf_removeAt_46 : decode mi_Sf_removeAt.2.1 46 = .ok (.putfield 18, 3) := by decide +kernel
theorem d_Sf_removeAt_49 : decode mi_Sf_removeAt.2.1 49 = .ok (.aload_n 0, 1) := by decide +kernel
theorem d_Sf_removeAt_50 : decode mi_Sf_removeAt.2.1 50 = .ok (.getfield 11, 3) := by decide +kernel
theorem d_Sf_removeAt_53 : decode mi_Sf_removeAt.2.1 53 = .ok (.aload_n 0, 1) := by decide +kernel
theorem d_Sf_removeAt_54 : decode mi_Sf_removeAt.2.1 54 = .ok (.getfield 18, 3) := by decide +kernel
theorem d_Sf_removeAt_57 : decode mi_Sf_removeAt.2.1 57 = .ok (.aload_n 2, 1) := by decide +kernel
theorem d_Sf_removeAt_58 : decode mi_Sf_removeAt.2.1 58 = .ok (.aastore, 1) := by decide +kernel
theorem d_Sf_removeAt_59 : decode mi_Sf_removeAt.2.1 59 = .ok (.return_, 1) := by decide +kernel
theorem d_Sf_keepAnother_0 : decode mi_Sf_keepAnother.2.1 0 = .ok (.aload_n 0, 1) := by decide +kernel
theorem d_Sf_keepAnother_1 : decode mi_Sf_keepAnother.2.1 1 = .ok (.getfield 18, 3) := by decide +kernel
theorem d_Sf_keepAnother_4 : decode mi_Sf_keepAnother.2.1 4 = .ok (.iconst 3, 1) := by decide +kernel
theorem d_Sf_keepAnother_5 : decode mi_Sf_keepAnother.2.1 5 = .ok (.if_icmp .ne 8, 3) := by decide +kernel
theorem d_Sf_keepAnother_8 : decode mi_Sf_keepAnother.2.1 8 = .ok (.aload_n 0, 1) := by decide +kernel
theorem d_Sf_keepAnother_9 : decode mi_Sf_keepAnother.2.1 9 = .ok (.iconst 0, 1) := by decide +kernel
theorem d_Sf_keepAnother_10 : decode mi_Sf_keepAnother.2.1 10 = .ok (.invokevirtual 32, 3) := by decide +kernel
theorem d_Sf_keepAnother_13 : decode mi_Sf_keepAnother.2.1 13 = .ok (.aload_n 0, 1) := by decide +kernel
theorem d_Sf_keepAnother_14 : decode mi_Sf_keepAnother.2.1 14 = .ok (.dup, 1) := by decide +kernel
theorem d_Sf_keepAnother_15 : decode mi_Sf_keepAnother.2.1 15 = .ok (.getfield 22, 3) := by decide +kernel
theorem d_Sf_keepAnother_18 : decode mi_Sf_keepAnother.2.1 18 = .ok (.iconst 1, 1) := by decide +kernel
theorem d_Sf_keepAnother_19 : decode mi_Sf_keepAnother.2.1 19 = .ok (.iadd, 1) := by decide +kernel
theorem d_Sf_keepAnother_20 : decode mi_Sf_keepAnother.2.1 20 = .ok (.putfield 22, 3) := by decide +kernel
theorem d_Sf_keepAnother_23 : decode mi_Sf_keepAnother.2.1 23 = .ok (.aload_n 0, 1) := by decide +kernel
theorem d_Sf_keepAnother_24 : decode mi_Sf_keepAnother.2.1 24 = .ok (.getfield 11, 3) := by decide +kernel
theorem d_Sf_keepAnother_27 : decode mi_Sf_keepAnother.2.1 27 = .ok (.aload_n 0, 1) := by decide +kernel
theorem d_Sf_keepAnother_28 : decode mi_Sf_keepAnother.2.1 28 = .ok (.getfield 18, 3) := by decide +kernel
theorem d_Sf_keepAnother_31 : decode mi_Sf_keepAnother.2.1 31 = .ok (.aaload, 1) := by decide +kernel
theorem d_Sf_keepAnother_32 : decode mi_Sf_keepAnother.2.1 32 = .ok (.astore_n 1, 1) := by decide +kernel
theorem d_Sf_keepAnother_33 : decode mi_Sf_keepAnother.2.1 33 = .ok (.aload_n 1, 1) := by decide +kernel
theorem d_Sf_keepAnother_34 : decode mi_Sf_keepAnother.2.1 34 = .ok (.aload_n 0, 1) := by decide +kernel
theorem d_Sf_keepAnother_35 : decode mi_Sf_keepAnother.2.1 35 = .ok (.getfield 22, 3) := by decide +kernel
theorem d_Sf_keepAnother_38 : decode mi_Sf_keepAnother.2.1 38 = .ok (.putfield 25, 3) := by decide +kernel
theorem d_Sf_keepAnother_41 : decode mi_Sf_keepAnother.2.1 41 = .ok (.aload_n 1, 1) := by decide +kernel
theorem d_Sf_keepAnother_42 : decode mi_Sf_keepAnother.2.1 42 = .ok (.getfield 36, 3) := by decide +kernel
theorem d_Sf_keepAnother_45 : decode mi_Sf_keepAnother.2.1 45 = .ok (.invokevirtual 40, 3) := by decide +kernel
theorem d_Sf_keepAnother_48 : decode mi_Sf_keepAnother.2.1 48 = .ok (.aload_n 1, 1) := by decide +kernel
theorem d_Sf_keepAnother_49 : decode mi_Sf_keepAnother.2.1 49 = .ok (.getfield 36, 3) := by decide +kernel
theorem d_Sf_keepAnother_52 : decode mi_Sf_keepAnother.2.1 52 = .ok (.aload_n 0, 1) := by decide +kernel
theorem d_Sf_keepAnother_53 : decode mi_Sf_keepAnother.2.1 53 = .ok (.getfield 22, 3) := by decide +kernel
theorem d_Sf_keepAnother_56 : decode mi_Sf_keepAnother.2.1 56 = .ok (.i2l, 1) := by decide +kernel
theorem d_Sf_keepAnother_57 : decode mi_Sf_keepAnother.2.1 57 = .ok (.iconst 4, 1) := by decide +kernel
theorem d_Sf_keepAnother_58 : decode mi_Sf_keepAnother.2.1 58 = .ok (.invokevirtual 45, 3) := by decide +kernel
theorem d_Sf_keepAnother_61 : decode mi_Sf_keepAnother.2.1 61 = .ok (.aload_n 0, 1) := by decide +kernel
theorem d_Sf_keepAnother_62 : decode mi_Sf_keepAnother.2.1 62 = .ok (.dup, 1) := by decide +kernel
theorem d_Sf_keepAnother_63 : decode mi_Sf_keepAnother.2.1 63 = .ok (.getfield 18, 3) := by decide +kernel
theorem d_Sf_keepAnother_66 : decode mi_Sf_keepAnother.2.1 66 = .ok (.iconst 1, 1) := by decide +kernel
theorem d_Sf_keepAnother_67 : decode mi_Sf_keepAnother.2.1 67 = .ok (.iadd, 1) := by decide +kernel
theorem d_Sf_keepAnother_68 : decode mi_Sf_keepAnother.2.1 68 = .ok (.putfield 18, 3) := by decide +kernel
theorem d_Sf_keepAnother_71 : decode mi_Sf_keepAnother.2.1 71 = .ok (.aload_n 1, 1) := by decide +kernel
theorem d_Sf_keepAnother_72 : decode mi_Sf_keepAnother.2.1 72 = .ok (.areturn, 1) := by decide +kernel
theorem d_L_law_0 : decode mi_L_law.2.1 0 = .ok (.new 7, 3) := by decide +kernel
theorem d_L_law_3 : decode mi_L_law.2.1 3 = .ok (.dup, 1) := by decide +kernel
theorem d_L_law_4 : decode mi_L_law.2.1 4 = .ok (.invokespecial 9, 3) := by decide +kernel
theorem d_L_law_7 : decode mi_L_law.2.1 7 = .ok (.astore_n 1, 1) := by decide +kernel
theorem d_L_law_8 : decode mi_L_law.2.1 8 = .ok (.new 10, 3) := by decide +kernel
theorem d_L_law_11 : decode mi_L_law.2.1 11 = .ok (.dup, 1) := by decide +kernel
theorem d_L_law_12 : decode mi_L_law.2.1 12 = .ok (.invokespecial 12, 3) := by decide +kernel
theorem d_L_law_15 : decode mi_L_law.2.1 15 = .ok (.astore_n 2, 1) := by decide +kernel
theorem d_L_law_16 : decode mi_L_law.2.1 16 = .ok (.iconst 0, 1) := by decide +kernel
theorem d_L_law_17 : decode mi_L_law.2.1 17 = .ok (.istore_n 3, 1) := by decide +kernel
theorem d_L_law_18 : decode mi_L_law.2.1 18 = .ok (.iload_n 3, 1) := by decide +kernel
theorem d_L_law_19 : decode mi_L_law.2.1 19 = .ok (.aload_n 0, 1) := by decide +kernel
theorem d_L_law_20 : decode mi_L_law.2.1 20 = .ok (.arraylength, 1) := by decide +kernel
theorem d_L_law_21 : decode mi_L_law.2.1 21 = .ok (.bipush 7, 2) := by decide +kernel
theorem d_L_law_23 : decode mi_L_law.2.1 23 = .ok (.isub, 1) := by decide +kernel
theorem d_L_law_24 : decode mi_L_law.2.1 24 = .ok (.if_icmp .gt 468, 3) := by decide +kernel
theorem d_L_law_27 : decode mi_L_law.2.1 27 = .ok (.aload_n 0, 1) := by decide +kernel
theorem d_L_law_28 : decode mi_L_law.2.1 28 = .ok (.iload_n 3, 1) := by decide +kernel
theorem d_L_law_29 : decode mi_L_law.2.1 29 = .ok (.iaload, 1) := by decide +kernel
theorem d_L_law_30 : decode mi_L_law.2.1 30 = .ok (.bipush 15, 2) := by decide +kernel
theorem d_L_law_32 : decode mi_L_law.2.1 32 = .ok (.iand, 1) := by decide +kernel
theorem d_L_law_33 : decode mi_L_law.2.1 33 = .ok (.tableswitch 453 0 13 #[71, 82, 95, 118, 151, 214, 309, 322, 335, 358, 371, 394, 407, 430], 71) := by decide +kernel
theorem d_L_law_104 : decode mi_L_law.2.1 104 = .ok (.aload_n 1, 1) := by decide +kernel
theorem d_L_law_105 : decode mi_L_law.2.1 105 = .ok (.invokevirtual 13, 3) := by decide +kernel
theorem d_L_law_108 : decode mi_L_law.2.1 108 = .ok (.aload_n 2, 1) := by decide +kernel
theorem d_L_law_109 : decode mi_L_law.2.1 109 = .ok (.invokevirtual 16, 3) := by decide +kernel
theorem d_L_law_112 : decode mi_L_law.2.1 112 = .ok (.goto 374, 3) := by decide +kernel
theorem d_L_law_115 : decode mi_L_law.2.1 115 = .ok (.aload_n 1, 1) := by decide +kernel
theorem d_L_law_116 : decode mi_L_law.2.1 116 = .ok (.invokevirtual 17, 3) := by decide +kernel
theorem d_L_law_119 : decode mi_L_law.2.1 119 = .ok (.aload_n 2, 1) := by decide +kernel
theorem d_L_law_120 : decode mi_L_law.2.1 120 = .ok (.invokevirtual 21, 3) := by decide +kernel
theorem d_L_law_123 : decode mi_L_law.2.1 123 = .ok (.if_icmp .eq 363, 3) := by decide +kernel
theorem d_L_law_126 : decode mi_L_law.2.1 126 = .ok (.iconst 0, 1) := by decide +kernel
theorem d_L_law_127 : decode mi_L_law.2.1 127 = .ok (.ireturn, 1) := by decide +kernel
theorem d_L_law_128 : decode mi_L_law.2.1 128 = .ok (.aload_n 1, 1) := by decide +kernel
theorem d_L_law_129 : decode mi_L_law.2.1 129 = .ok (.aload_n 0, 1) := by decide +kernel
theorem d_L_law_130 : decode mi_L_law.2.1 130 = .ok (.iload_n 3, 1) := by decide +kernel
theorem d_L_law_131 : decode mi_L_law.2.1 131 = .ok (.iconst 1, 1) := by decide +kernel
theorem d_L_law_132 : decode mi_L_law.2.1 132 = .ok (.iadd, 1) := by decide +kernel
theorem d_L_law_133 : decode mi_L_law.2.1 133 = .ok (.iaload, 1) := by decide +kernel
theorem d_L_law_134 : decode mi_L_law.2.1 134 = .ok (.invokevirtual 22, 3) := by decide +kernel
theorem d_L_law_137 : decode mi_L_law.2.1 137 = .ok (.aload_n 2, 1) := by decide +kernel
theorem d_L_law_138 : decode mi_L_law.2.1 138 = .ok (.aload_n 0, 1) := by decide +kernel
theorem d_L_law_139 : decode mi_L_law.2.1 139 = .ok (.iload_n 3, 1) := by decide +kernel
theorem d_L_law_140 : decode mi_L_law.2.1 140 = .ok (.iconst 1, 1) := by decide +kernel
theorem d_L_law_141 : decode mi_L_law.2.1 141 = .ok (.iadd, 1) := by decide +kernel
theorem d_L_law_142 : decode mi_L_law.2.1 142 = .ok (.iaload, 1) := by decide +kernel
theorem d_L_law_143 : decode mi_L_law.2.1 143 = .ok (.invokevirtual 26, 3) := by decide +kernel
theorem d_L_law_146 : decode mi_L_law.2.1 146 = .ok (.if_icmp .eq 340, 3) := by decide +kernel
theorem d_L_law_149 : decode mi_L_law.2.1 149 = .ok (.iconst 0, 1) := by decide +kernel
theorem d_L_law_150 : decode mi_L_law.2.1 150 = .ok (.ireturn, 1) := by decide +kernel
theorem d_L_law_151 : decode mi_L_law.2.1 151 = .ok (.aload_n 1, 1) := by decide +kernel
theorem d_L_law_152 : decode mi_L_law.2.1 152 = .ok (.aload_n 0, 1) := by decide +kernel
theorem d_L_law_153 : decode mi_L_law.2.1 153 = .ok (.iload_n 3, 1) := by decide +kernel
theorem d_L_law_154 : decode mi_L_law.2.1 154 = .ok (.iconst 1, 1) := by decide +kernel
theorem d_L_law_155 : decode mi_L_law.2.1 155 = .ok (.iadd, 1) := by decide +kernel
theorem d_L_law_156 : decode mi_L_law.2.1 156 = .ok (.iaload, 1) := by decide +kernel
theorem d_L_law_157 : decode mi_L_law.2.1 157 = .ok (.aload_n 0, 1) := by decide +kernel
theorem d_L_law_158 : decode mi_L_law.2.1 158 = .ok (.iload_n 3, 1) := by decide +kernel
theorem d_L_law_159 : decode mi_L_law.2.1 159 = .ok (.iconst 2, 1) := by decide +kernel
theorem d_L_law_160 : decode mi_L_law.2.1 160 = .ok (.iadd, 1) := by decide +kernel
theorem d_L_law_161 : decode mi_L_law.2.1 161 = .ok (.iaload, 1) := by decide +kernel
theorem d_L_law_162 : decode mi_L_law.2.1 162 = .ok (.invokevirtual 27, 3) := by decide +kernel
theorem d_L_law_165 : decode mi_L_law.2.1 165 = .ok (.aload_n 2, 1) := by decide +kernel
theorem d_L_law_166 : decode mi_L_law.2.1 166 = .ok (.aload_n 0, 1) := by decide +kernel
theorem d_L_law_167 : decode mi_L_law.2.1 167 = .ok (.iload_n 3, 1) := by decide +kernel
theorem d_L_law_168 : decode mi_L_law.2.1 168 = .ok (.iconst 1, 1) := by decide +kernel
theorem d_L_law_169 : decode mi_L_law.2.1 169 = .ok (.iadd, 1) := by decide +kernel
theorem d_L_law_170 : decode mi_L_law.2.1 170 = .ok (.iaload, 1) := by decide +kernel
theorem d_L_law_171 : decode mi_L_law.2.1 171 = .ok (.aload_n 0, 1) := by decide +kernel
theorem d_L_law_172 : decode mi_L_law.2.1 172 = .ok (.iload_n 3, 1) := by decide +kernel
theorem d_L_law_173 : decode mi_L_law.2.1 173 = .ok (.iconst 2, 1) := by decide +kernel
theorem d_L_law_174 : decode mi_L_law.2.1 174 = .ok (.iadd, 1) := by decide +kernel
theorem d_L_law_175 : decode mi_L_law.2.1 175 = .ok (.iaload, 1) := by decide +kernel
theorem d_L_law_176 : decode mi_L_law.2.1 176 = .ok (.invokevirtual 31, 3) := by decide +kernel
theorem d_L_law_179 : decode mi_L_law.2.1 179 = .ok (.if_icmp .eq 307, 3) := by decide +kernel
theorem d_L_law_182 : decode mi_L_law.2.1 182 = .ok (.iconst 0, 1) := by decide +kernel
theorem d_L_law_183 : decode mi_L_law.2.1 183 = .ok (.ireturn, 1) := by decide +kernel
theorem d_L_law_184 : decode mi_L_law.2.1 184 = .ok (.aload_n 1, 1) := by decide +kernel
theorem d_L_law_185 : decode mi_L_law.2.1 185 = .ok (.aload_n 0, 1) := by decide +kernel
theorem d_L_law_186 : decode mi_L_law.2.1 186 = .ok (.iload_n 3, 1) := by decide +kernel
theorem d_L_law_187 : decode mi_L_law.2.1 187 = .ok (.iconst 1, 1) := by decide +kernel
theorem d_L_law_188 : decode mi_L_law.2.1 188 = .ok (.iadd, 1) := by decide +kernel
theorem d_L_law_189 : decode mi_L_law.2.1 189 = .ok (.iaload, 1) := by decide +kernel
theorem d_L_law_190 : decode mi_L_law.2.1 190 = .ok (.aload_n 0, 1) := by decide +kernel
theorem d_L_law_191 : decode mi_L_law.2.1 191 = .ok (.iload_n 3, 1) := by decide +kernel
theorem d_L_law_192 : decode mi_L_law.2.1 192 = .ok (.iconst 2, 1) := by decide +kernel
theorem d_L_law_193 : decode mi_L_law.2.1 193 = .ok (.iadd, 1) := by decide +kernel
theorem d_L_law_194 : decode mi_L_law.2.1 194 = .ok (.iaload, 1) := by decide +kernel
theorem d_L_law_195 : decode mi_L_law.2.1 195 = .ok (.i2l, 1) := by decide +kernel
theorem d_L_law_196 : decode mi_L_law.2.1 196 = .ok (.bipush 32, 2) := by decide +kernel
theorem d_L_law_198 : decode mi_L_law.2.1 198 = .ok (.lshl, 1) := by decide +kernel
theorem d_L_law_199 : decode mi_L_law.2.1 199 = .ok (.aload_n 0, 1) := by decide +kernel
theorem d_L_law_200 : decode mi_L_law.2.1 200 = .ok (.iload_n 3, 1) := by decide +kernel
theorem d_L_law_201 : decode mi_L_law.2.1 201 = .ok (.iconst 3, 1) := by decide +kernel
theorem d_L_law_202 : decode mi_L_law.2.1 202 = .ok (.iadd, 1) := by decide +kernel
theorem d_L_law_203 : decode mi_L_law.2.1 203 = .ok (.iaload, 1) := by decide +kernel
theorem d_L_law_204 : decode mi_L_law.2.1 204 = .ok (.i2l, 1) := by decide +kernel
theorem d_L_law_205 : decode mi_L_law.2.1 205 = .ok (.ldc2_w 32, 3) := by decide +kernel
theorem d_L_law_208 : decode mi_L_law.2.1 208 = .ok (.land, 1) := by decide +kernel
theorem d_L_law_209 : decode mi_L_law.2.1 209 = .ok (.lor, 1) := by decide +kernel
theorem d_L_law_210 : decode mi_L_law.2.1 210 = .ok (.invokevirtual 34, 3) := by decide +kernel
theorem d_L_law_213 : decode mi_L_law.2.1 213 = .ok (.aload_n 2, 1) := by decide +kernel
theorem d_L_law_214 : decode mi_L_law.2.1 214 = .ok (.aload_n 0, 1) := by decide +kernel
theorem d_L_law_215 : decode mi_L_law.2.1 215 = .ok (.iload_n 3, 1) := by decide +kernel
theorem d_L_law_216 : decode mi_L_law.2.1 216 = .ok (.iconst 1, 1) := by decide +kernel
theorem d_L_law_217 : decode mi_L_law.2.1 217 = .ok (.iadd, 1) := by decide +kernel
theorem d_L_law_218 : decode mi_L_law.2.1 218 = .ok (.iaload, 1) := by decide +kernel
theorem d_L_law_219 : decode mi_L_law.2.1 219 = .ok (.aload_n 0, 1) := by decide +kernel
theorem d_L_law_220 : decode mi_L_law.2.1 220 = .ok (.iload_n 3, 1) := by decide +kernel
theorem d_L_law_221 : decode mi_L_law.2.1 221 = .ok (.iconst 2, 1) := by decide +kernel
theorem d_L_law_222 : decode mi_L_law.2.1 222 = .ok (.iadd, 1) := by decide +kernel
theorem d_L_law_223 : decode mi_L_law.2.1 223 = .ok (.iaload, 1) := by decide +kernel
theorem d_L_law_224 : decode mi_L_law.2.1 224 = .ok (.i2l, 1) := by decide +kernel
theorem d_L_law_225 : decode mi_L_law.2.1 225 = .ok (.bipush 32, 2) := by decide +kernel
theorem d_L_law_227 : decode mi_L_law.2.1 227 = .ok (.lshl, 1) := by decide +kernel
theorem d_L_law_228 : decode mi_L_law.2.1 228 = .ok (.aload_n 0, 1) := by decide +kernel
theorem d_L_law_229 : decode mi_L_law.2.1 229 = .ok (.iload_n 3, 1) := by decide +kernel
theorem d_L_law_230 : decode mi_L_law.2.1 230 = .ok (.iconst 3, 1) := by decide +kernel
theorem d_L_law_231 : decode mi_L_law.2.1 231 = .ok (.iadd, 1) := by decide +kernel
theorem d_L_law_232 : decode mi_L_law.2.1 232 = .ok (.iaload, 1) := by decide +kernel
theorem d_L_law_233 : decode mi_L_law.2.1 233 = .ok (.i2l, 1) := by decide +kernel
theorem d_L_law_234 : decode mi_L_law.2.1 234 = .ok (.ldc2_w 32, 3) := by decide +kernel
theorem d_L_law_237 : decode mi_L_law.2.1 237 = .ok (.land, 1) := by decide +kernel
theorem d_L_law_238 : decode mi_L_law.2.1 238 = .ok (.lor, 1) := by decide +kernel
theorem d_L_law_239 : decode mi_L_law.2.1 239 = .ok (.invokevirtual 38, 3) := by decide +kernel
theorem d_L_law_242 : decode mi_L_law.2.1 242 = .ok (.if_icmp .eq 244, 3) := by decide +kernel
theorem d_L_law_245 : decode mi_L_law.2.1 245 = .ok (.iconst 0, 1) := by decide +kernel
theorem d_L_law_246 : decode mi_L_law.2.1 246 = .ok (.ireturn, 1) := by decide +kernel
theorem d_L_law_247 : decode mi_L_law.2.1 247 = .ok (.aload_n 1, 1) := by decide +kernel
theorem d_L_law_248 : decode mi_L_law.2.1 248 = .ok (.aload_n 0, 1) := by decide +kernel
theorem d_L_law_249 : decode mi_L_law.2.1 249 = .ok (.iload_n 3, 1) := by decide +kernel
theorem d_L_law_250 : decode mi_L_law.2.1 250 = .ok (.iconst 1, 1) := by decide +kernel
theorem d_L_law_251 : decode mi_L_law.2.1 251 = .ok (.iadd, 1) := by decide +kernel
theorem d_L_law_252 : decode mi_L_law.2.1 252 = .ok (.iaload, 1) := by decide +kernel
theorem d_L_law_253 : decode mi_L_law.2.1 253 = .ok (.aload_n 0, 1) := by decide +kernel
theorem d_L_law_254 : decode mi_L_law.2.1 254 = .ok (.iload_n 3, 1) := by decide +kernel
theorem d_L_law_255 : decode mi_L_law.2.1 255 = .ok (.iconst 2, 1) := by decide +kernel
theorem d_L_law_256 : decode mi_L_law.2.1 256 = .ok (.iadd, 1) := by decide +kernel
theorem d_L_law_257 : decode mi_L_law.2.1 257 = .ok (.iaload, 1) := by decide +kernel
theorem d_L_law_258 : decode mi_L_law.2.1 258 = .ok (.aload_n 0, 1) := by decide +kernel
theorem d_L_law_259 : decode mi_L_law.2.1 259 = .ok (.iload_n 3, 1) := by decide +kernel
theorem d_L_law_260 : decode mi_L_law.2.1 260 = .ok (.iconst 3, 1) := by decide +kernel
theorem d_L_law_261 : decode mi_L_law.2.1 261 = .ok (.iadd, 1) := by decide +kernel
theorem d_L_law_262 : decode mi_L_law.2.1 262 = .ok (.iaload, 1) := by decide +kernel
theorem d_L_law_263 : decode mi_L_law.2.1 263 = .ok (.aload_n 0, 1) := by decide +kernel
theorem d_L_law_264 : decode mi_L_law.2.1 264 = .ok (.iload_n 3, 1) := by decide +kernel
theorem d_L_law_265 : decode mi_L_law.2.1 265 = .ok (.iconst 4, 1) := by decide +kernel
theorem d_L_law_266 : decode mi_L_law.2.1 266 = .ok (.iadd, 1) := by decide +kernel
theorem d_L_law_267 : decode mi_L_law.2.1 267 = .ok (.iaload, 1) := by decide +kernel
theorem d_L_law_268 : decode mi_L_law.2.1 268 = .ok (.i2l, 1) := by decide +kernel
theorem d_L_law_269 : decode mi_L_law.2.1 269 = .ok (.bipush 32, 2) := by decide +kernel
theorem d_L_law_271 : decode mi_L_law.2.1 271 = .ok (.lshl, 1) := by decide +kernel
theorem d_L_law_272 : decode mi_L_law.2.1 272 = .ok (.aload_n 0, 1) := by decide +kernel
theorem d_L_law_273 : decode mi_L_law.2.1 273 = .ok (.iload_n 3, 1) := by decide +kernel
theorem d_L_law_274 : decode mi_L_law.2.1 274 = .ok (.iconst 5, 1) := by decide +kernel
theorem d_L_law_275 : decode mi_L_law.2.1 275 = .ok (.iadd, 1) := by decide +kernel
theorem d_L_law_276 : decode mi_L_law.2.1 276 = .ok (.iaload, 1) := by decide +kernel
theorem d_L_law_277 : decode mi_L_law.2.1 277 = .ok (.i2l, 1) := by decide +kernel
theorem d_L_law_278 : decode mi_L_law.2.1 278 = .ok (.ldc2_w 32, 3) := by decide +kernel
theorem d_L_law_281 : decode mi_L_law.2.1 281 = .ok (.land, 1) := by decide +kernel
theorem d_L_law_282 : decode mi_L_law.2.1 282 = .ok (.lor, 1) := by decide +kernel
theorem d_L_law_283 : decode mi_L_law.2.1 283 = .ok (.aload_n 0, 1) := by decide +kernel
theorem d_L_law_284 : decode mi_L_law.2.1 284 = .ok (.iload_n 3, 1) := by decide +kernel
theorem d_L_law_285 : decode mi_L_law.2.1 285 = .ok (.bipush 6, 2) := by decide +kernel
theorem d_L_law_287 : decode mi_L_law.2.1 287 = .ok (.iadd, 1) := by decide +kernel
theorem d_L_law_288 : decode mi_L_law.2.1 288 = .ok (.iaload, 1) := by decide +kernel
theorem d_L_law_289 : decode mi_L_law.2.1 289 = .ok (.invokevirtual 39, 3) := by decide +kernel
theorem d_L_law_292 : decode mi_L_law.2.1 292 = .ok (.aload_n 2, 1) := by decide +kernel
theorem d_L_law_293 : decode mi_L_law.2.1 293 = .ok (.aload_n 0, 1) := by decide +kernel
theorem d_L_law_294 : decode mi_L_law.2.1 294 = .ok (.iload_n 3, 1) := by decide +kernel
theorem d_L_law_295 : decode mi_L_law.2.1 295 = .ok (.iconst 1, 1) := by decide +kernel
theorem d_L_law_296 : decode mi_L_law.2.1 296 = .ok (.iadd, 1) := by decide +kernel
theorem d_L_law_297 : decode mi_L_law.2.1 297 = .ok (.iaload, 1) := by decide +kernel
theorem d_L_law_298 : decode mi_L_law.2.1 298 = .ok (.aload_n 0, 1) := by decide +kernel
theorem d_L_law_299 : decode mi_L_law.2.1 299 = .ok (.iload_n 3, 1) := by decide +kernel
theorem d_L_law_300 : decode mi_L_law.2.1 300 = .ok (.iconst 2, 1) := by decide +kernel
theorem d_L_law_301 : decode mi_L_law.2.1 301 = .ok (.iadd, 1) := by decide +kernel
theorem d_L_law_302 : decode mi_L_law.2.1 302 = .ok (.iaload, 1) := by decide +kernel
theorem d_L_law_303 : decode mi_L_law.2.1 303 = .ok (.aload_n 0, 1) := by decide +kernel
theorem d_L_law_304 : decode mi_L_law.2.1 304 = .ok (.iload_n 3, 1) := by decide +kernel
theorem d_L_law_305 : decode mi_L_law.2.1 305 = .ok (.iconst 3, 1) := by decide +kernel
theorem d_L_law_306 : decode mi_L_law.2.1 306 = .ok (.iadd, 1) := by decide +kernel
theorem d_L_law_307 : decode mi_L_law.2.1 307 = .ok (.iaload, 1) := by decide +kernel
theorem d_L_law_308 : decode mi_L_law.2.1 308 = .ok (.aload_n 0, 1) := by decide +kernel
theorem d_L_law_309 : decode mi_L_law.2.1 309 = .ok (.iload_n 3, 1) := by decide +kernel
theorem d_L_law_310 : decode mi_L_law.2.1 310 = .ok (.iconst 4, 1) := by decide +kernel
theorem d_L_law_311 : decode mi_L_law.2.1 311 = .ok (.iadd, 1) := by decide +kernel
theorem d_L_law_312 : decode mi_L_law.2.1 312 = .ok (.iaload, 1) := by decide +kernel
theorem d_L_law_313 : decode mi_L_law.2.1 313 = .ok (.i2l, 1) := by decide +kernel
theorem d_L_law_314 : decode mi_L_law.2.1 314 = .ok (.bipush 32, 2) := by decide +kernel
theorem d_L_law_316 : decode mi_L_law.2.1 316 = .ok (.lshl, 1) := by decide +kernel
theorem d_L_law_317 : decode mi_L_law.2.1 317 = .ok (.aload_n 0, 1) := by decide +kernel
theorem d_L_law_318 : decode mi_L_law.2.1 318 = .ok (.iload_n 3, 1) := by decide +kernel
theorem d_L_law_319 : decode mi_L_law.2.1 319 = .ok (.iconst 5, 1) := by decide +kernel
theorem d_L_law_320 : decode mi_L_law.2.1 320 = .ok (.iadd, 1) := by decide +kernel
theorem d_L_law_321 : decode mi_L_law.2.1 321 = .ok (.iaload, 1) := by decide +kernel
theorem d_L_law_322 : decode mi_L_law.2.1 322 = .ok (.i2l, 1) := by decide +kernel
theorem d_L_law_323 : decode mi_L_law.2.1 323 = .ok (.ldc2_w 32, 3) := by decide +kernel
theorem d_L_law_326 : decode mi_L_law.2.1 326 = .ok (.land, 1) := by decide +kernel
theorem d_L_law_327 : decode mi_L_law.2.1 327 = .ok (.lor, 1) := by decide +kernel
theorem d_L_law_328 : decode mi_L_law.2.1 328 = .ok (.aload_n 0, 1) := by decide +kernel
theorem d_L_law_329 : decode mi_L_law.2.1 329 = .ok (.iload_n 3, 1) := by decide +kernel
theorem d_L_law_330 : decode mi_L_law.2.1 330 = .ok (.bipush 6, 2) := by decide +kernel
theorem d_L_law_332 : decode mi_L_law.2.1 332 = .ok (.iadd, 1) := by decide +kernel
theorem d_L_law_333 : decode mi_L_law.2.1 333 = .ok (.iaload, 1) := by decide +kernel
theorem d_L_law_334 : decode mi_L_law.2.1 334 = .ok (.invokevirtual 43, 3) := by decide +kernel
theorem d_L_law_337 : decode mi_L_law.2.1 337 = .ok (.if_icmp .eq 149, 3) := by decide +kernel
theorem d_L_law_340 : decode mi_L_law.2.1 340 = .ok (.iconst 0, 1) := by decide +kernel
theorem d_L_law_341 : decode mi_L_law.2.1 341 = .ok (.ireturn, 1) := by decide +kernel
theorem d_L_law_342 : decode mi_L_law.2.1 342 = .ok (.aload_n 1, 1) := by decide +kernel
theorem d_L_law_343 : decode mi_L_law.2.1 343 = .ok (.invokevirtual 44, 3) := by decide +kernel
theorem d_L_law_346 : decode mi_L_law.2.1 346 = .ok (.aload_n 2, 1) := by decide +kernel
theorem d_L_law_347 : decode mi_L_law.2.1 347 = .ok (.invokevirtual 48, 3) := by decide +kernel
theorem d_L_law_350 : decode mi_L_law.2.1 350 = .ok (.if_icmp .eq 136, 3) := by decide +kernel
theorem d_L_law_353 : decode mi_L_law.2.1 353 = .ok (.iconst 0, 1) := by decide +kernel
theorem d_L_law_354 : decode mi_L_law.2.1 354 = .ok (.ireturn, 1) := by decide +kernel
theorem d_L_law_355 : decode mi_L_law.2.1 355 = .ok (.aload_n 1, 1) := by decide +kernel
theorem d_L_law_356 : decode mi_L_law.2.1 356 = .ok (.invokevirtual 49, 3) := by decide +kernel
theorem d_L_law_359 : decode mi_L_law.2.1 359 = .ok (.aload_n 2, 1) := by decide +kernel
theorem d_L_law_360 : decode mi_L_law.2.1 360 = .ok (.invokevirtual 52, 3) := by decide +kernel
theorem d_L_law_363 : decode mi_L_law.2.1 363 = .ok (.if_icmp .eq 123, 3) := by decide +kernel
theorem d_L_law_366 : decode mi_L_law.2.1 366 = .ok (.iconst 0, 1) := by decide +kernel
theorem d_L_law_367 : decode mi_L_law.2.1 367 = .ok (.ireturn, 1) := by decide +kernel
theorem d_L_law_368 : decode mi_L_law.2.1 368 = .ok (.aload_n 1, 1) := by decide +kernel
theorem d_L_law_369 : decode mi_L_law.2.1 369 = .ok (.aload_n 0, 1) := by decide +kernel
theorem d_L_law_370 : decode mi_L_law.2.1 370 = .ok (.iload_n 3, 1) := by decide +kernel
theorem d_L_law_371 : decode mi_L_law.2.1 371 = .ok (.iconst 1, 1) := by decide +kernel
theorem d_L_law_372 : decode mi_L_law.2.1 372 = .ok (.iadd, 1) := by decide +kernel
theorem d_L_law_373 : decode mi_L_law.2.1 373 = .ok (.iaload, 1) := by decide +kernel
theorem d_L_law_374 : decode mi_L_law.2.1 374 = .ok (.invokevirtual 53, 3) := by decide +kernel
theorem d_L_law_377 : decode mi_L_law.2.1 377 = .ok (.aload_n 2, 1) := by decide +kernel
theorem d_L_law_378 : decode mi_L_law.2.1 378 = .ok (.aload_n 0, 1) := by decide +kernel
theorem d_L_law_379 : decode mi_L_law.2.1 379 = .ok (.iload_n 3, 1) := by decide +kernel
theorem d_L_law_380 : decode mi_L_law.2.1 380 = .ok (.iconst 1, 1) := by decide +kernel
theorem d_L_law_381 : decode mi_L_law.2.1 381 = .ok (.iadd, 1) := by decide +kernel
theorem d_L_law_382 : decode mi_L_law.2.1 382 = .ok (.iaload, 1) := by decide +kernel
theorem d_L_law_383 : decode mi_L_law.2.1 383 = .ok (.invokevirtual 56, 3) := by decide +kernel
theorem d_L_law_386 : decode mi_L_law.2.1 386 = .ok (.if_icmp .eq 100, 3) := by decide +kernel
theorem d_L_law_389 : decode mi_L_law.2.1 389 = .ok (.iconst 0, 1) := by decide +kernel
theorem d_L_law_390 : decode mi_L_law.2.1 390 = .ok (.ireturn, 1) := by decide +kernel
theorem d_L_law_391 : decode mi_L_law.2.1 391 = .ok (.aload_n 1, 1) := by decide +kernel
theorem d_L_law_392 : decode mi_L_law.2.1 392 = .ok (.invokevirtual 57, 3) := by decide +kernel
theorem d_L_law_395 : decode mi_L_law.2.1 395 = .ok (.aload_n 2, 1) := by decide +kernel
theorem d_L_law_396 : decode mi_L_law.2.1 396 = .ok (.invokevirtual 60, 3) := by decide +kernel
theorem d_L_law_399 : decode mi_L_law.2.1 399 = .ok (.if_icmp .eq 87, 3) := by decide +kernel
theorem d_L_law_402 : decode mi_L_law.2.1 402 = .ok (.iconst 0, 1) := by decide +kernel
theorem d_L_law_403 : decode mi_L_law.2.1 403 = .ok (.ireturn, 1) := by decide +kernel
theorem d_L_law_404 : decode mi_L_law.2.1 404 = .ok (.aload_n 1, 1) := by decide +kernel
theorem d_L_law_405 : decode mi_L_law.2.1 405 = .ok (.aload_n 0, 1) := by decide +kernel
theorem d_L_law_406 : decode mi_L_law.2.1 406 = .ok (.iload_n 3, 1) := by decide +kernel
theorem d_L_law_407 : decode mi_L_law.2.1 407 = .ok (.iconst 1, 1) := by decide +kernel
theorem d_L_law_408 : decode mi_L_law.2.1 408 = .ok (.iadd, 1) := by decide +kernel
theorem d_L_law_409 : decode mi_L_law.2.1 409 = .ok (.iaload, 1) := by decide +kernel
theorem d_L_law_410 : decode mi_L_law.2.1 410 = .ok (.invokevirtual 61, 3) := by decide +kernel
theorem d_L_law_413 : decode mi_L_law.2.1 413 = .ok (.aload_n 2, 1) := by decide +kernel
theorem d_L_law_414 : decode mi_L_law.2.1 414 = .ok (.aload_n 0, 1) := by decide +kernel
theorem d_L_law_415 : decode mi_L_law.2.1 415 = .ok (.iload_n 3, 1) := by decide +kernel
theorem d_L_law_416 : decode mi_L_law.2.1 416 = .ok (.iconst 1, 1) := by decide +kernel
theorem d_L_law_417 : decode mi_L_law.2.1 417 = .ok (.iadd, 1) := by decide +kernel
theorem d_L_law_418 : decode mi_L_law.2.1 418 = .ok (.iaload, 1) := by decide +kernel
theorem d_L_law_419 : decode mi_L_law.2.1 419 = .ok (.invokevirtual 64, 3) := by decide +kernel
theorem d_L_law_422 : decode mi_L_law.2.1 422 = .ok (.if_icmp .eq 64, 3) := by decide +kernel
theorem d_L_law_425 : decode mi_L_law.2.1 425 = .ok (.iconst 0, 1) := by decide +kernel
theorem d_L_law_426 : decode mi_L_law.2.1 426 = .ok (.ireturn, 1) := by decide +kernel
theorem d_L_law_427 : decode mi_L_law.2.1 427 = .ok (.aload_n 1, 1) := by decide +kernel
theorem d_L_law_428 : decode mi_L_law.2.1 428 = .ok (.invokevirtual 65, 3) := by decide +kernel
theorem d_L_law_431 : decode mi_L_law.2.1 431 = .ok (.aload_n 2, 1) := by decide +kernel
theorem d_L_law_432 : decode mi_L_law.2.1 432 = .ok (.invokevirtual 68, 3) := by decide +kernel
theorem d_L_law_435 : decode mi_L_law.2.1 435 = .ok (.if_icmp .eq 51, 3) := by decide +kernel
theorem d_L_law_438 : decode mi_L_law.2.1 438 = .ok (.iconst 0, 1) := by decide +kernel
theorem d_L_law_439 : decode mi_L_law.2.1 439 = .ok (.ireturn, 1) := by decide +kernel
theorem d_L_law_440 : decode mi_L_law.2.1 440 = .ok (.aload_n 1, 1) := by decide +kernel
theorem d_L_law_441 : decode mi_L_law.2.1 441 = .ok (.aload_n 0, 1) := by decide +kernel
theorem d_L_law_442 : decode mi_L_law.2.1 442 = .ok (.iload_n 3, 1) := by decide +kernel
theorem d_L_law_443 : decode mi_L_law.2.1 443 = .ok (.iconst 1, 1) := by decide +kernel
theorem d_L_law_444 : decode mi_L_law.2.1 444 = .ok (.iadd, 1) := by decide +kernel
theorem d_L_law_445 : decode mi_L_law.2.1 445 = .ok (.iaload, 1) := by decide +kernel
theorem d_L_law_446 : decode mi_L_law.2.1 446 = .ok (.invokevirtual 69, 3) := by decide +kernel
theorem d_L_law_449 : decode mi_L_law.2.1 449 = .ok (.aload_n 2, 1) := by decide +kernel
theorem d_L_law_450 : decode mi_L_law.2.1 450 = .ok (.aload_n 0, 1) := by decide +kernel
theorem d_L_law_451 : decode mi_L_law.2.1 451 = .ok (.iload_n 3, 1) := by decide +kernel
theorem d_L_law_452 : decode mi_L_law.2.1 452 = .ok (.iconst 1, 1) := by decide +kernel
theorem d_L_law_453 : decode mi_L_law.2.1 453 = .ok (.iadd, 1) := by decide +kernel
theorem d_L_law_454 : decode mi_L_law.2.1 454 = .ok (.iaload, 1) := by decide +kernel
theorem d_L_law_455 : decode mi_L_law.2.1 455 = .ok (.invokevirtual 72, 3) := by decide +kernel
theorem d_L_law_458 : decode mi_L_law.2.1 458 = .ok (.if_icmp .eq 28, 3) := by decide +kernel
theorem d_L_law_461 : decode mi_L_law.2.1 461 = .ok (.iconst 0, 1) := by decide +kernel
theorem d_L_law_462 : decode mi_L_law.2.1 462 = .ok (.ireturn, 1) := by decide +kernel
theorem d_L_law_463 : decode mi_L_law.2.1 463 = .ok (.aload_n 1, 1) := by decide +kernel
theorem d_L_law_464 : decode mi_L_law.2.1 464 = .ok (.aload_n 0, 1) := by decide +kernel
theorem d_L_law_465 : decode mi_L_law.2.1 465 = .ok (.iload_n 3, 1) := by decide +kernel
theorem d_L_law_466 : decode mi_L_law.2.1 466 = .ok (.iconst 1, 1) := by decide +kernel
theorem d_L_law_467 : decode mi_L_law.2.1 467 = .ok (.iadd, 1) := by decide +kernel
theorem d_L_law_468 : decode mi_L_law.2.1 468 = .ok (.iaload, 1) := by decide +kernel
theorem d_L_law_469 : decode mi_L_law.2.1 469 = .ok (.invokevirtual 73, 3) := by decide +kernel
theorem d_L_law_472 : decode mi_L_law.2.1 472 = .ok (.aload_n 2, 1) := by decide +kernel
theorem d_L_law_473 : decode mi_L_law.2.1 473 = .ok (.aload_n 0, 1) := by decide +kernel
theorem d_L_law_474 : decode mi_L_law.2.1 474 = .ok (.iload_n 3, 1) := by decide +kernel
theorem d_L_law_475 : decode mi_L_law.2.1 475 = .ok (.iconst 1, 1) := by decide +kernel
theorem d_L_law_476 : decode mi_L_law.2.1 476 = .ok (.iadd, 1) := by decide +kernel
theorem d_L_law_477 : decode mi_L_law.2.1 477 = .ok (.iaload, 1) := by decide +kernel
theorem d_L_law_478 : decode mi_L_law.2.1 478 = .ok (.invokevirtual 76, 3) := by decide +kernel
theorem d_L_law_481 : decode mi_L_law.2.1 481 = .ok (.if_icmp .eq 5, 3) := by decide +kernel
theorem d_L_law_484 : decode mi_L_law.2.1 484 = .ok (.iconst 0, 1) := by decide +kernel
theorem d_L_law_485 : decode mi_L_law.2.1 485 = .ok (.ireturn, 1) := by decide +kernel
theorem d_L_law_486 : decode mi_L_law.2.1 486 = .ok (.iinc 3 7, 3) := by decide +kernel
theorem d_L_law_489 : decode mi_L_law.2.1 489 = .ok (.goto (-471), 3) := by decide +kernel
theorem d_L_law_492 : decode mi_L_law.2.1 492 = .ok (.iconst 1, 1) := by decide +kernel
theorem d_L_law_493 : decode mi_L_law.2.1 493 = .ok (.ireturn, 1) := by decide +kernel
end
section
theorem d_X_init_0 : decode mi_X_init.2.1 0 = .ok (.aload_n 0, 1) := by decide +kernel
theorem d_X_init_1 : decode mi_X_init.2.1 1 = .ok (.invokespecial 3, 3) := by decide +kernel
theorem d_X_init_4 : decode mi_X_init.2.1 4 = .ok (.aload_n 0, 1) := by decide +kernel
theorem d_X_init_5 : decode mi_X_init.2.1 5 = .ok (.bipush 16, 2) := by decide +kernel
theorem d_X_init_7 : decode mi_X_init.2.1 7 = .ok (.anewarray 9, 3) := by decide +kernel
theorem d_X_init_10 : decode mi_X_init.2.1 10 = .ok (.putfield 11, 3) := by decide +kernel
theorem d_X_init_13 : decode mi_X_init.2.1 13 = .ok (.aload_n 0, 1) := by decide +kernel
theorem d_X_init_14 : decode mi_X_init.2.1 14 = .ok (.bipush 6, 2) := by decide +kernel
theorem d_X_init_16 : decode mi_X_init.2.1 16 = .ok (.anewarray 15, 3) := by decide +kernel
theorem d_X_init_19 : decode mi_X_init.2.1 19 = .ok (.putfield 17, 3) := by decide +kernel
theorem d_X_init_22 : decode mi_X_init.2.1 22 = .ok (.aload_n 0, 1) := by decide +kernel
theorem d_X_init_23 : decode mi_X_init.2.1 23 = .ok (.new 21, 3) := by decide +kernel
theorem d_X_init_26 : decode mi_X_init.2.1 26 = .ok (.dup, 1) := by decide +kernel
theorem d_X_init_27 : decode mi_X_init.2.1 27 = .ok (.invokespecial 23, 3) := by decide +kernel
theorem d_X_init_30 : decode mi_X_init.2.1 30 = .ok (.putfield 24, 3) := by decide +kernel
theorem d_X_init_33 : decode mi_X_init.2.1 33 = .ok (.aload_n 0, 1) := by decide +kernel
theorem d_X_init_34 : decode mi_X_init.2.1 34 = .ok (.new 28, 3) := by decide +kernel
theorem d_X_init_37 : decode mi_X_init.2.1 37 = .ok (.dup, 1) := by decide +kernel
theorem d_X_init_38 : decode mi_X_init.2.1 38 = .ok (.invokespecial 30, 3) := by decide +kernel
theorem d_X_init_41 : decode mi_X_init.2.1 41 = .ok (.putfield 31, 3) := by decide +kernel
theorem d_X_init_44 : decode mi_X_init.2.1 44 = .ok (.aload_n 0, 1) := by decide +kernel
theorem d_X_init_45 : decode mi_X_init.2.1 45 = .ok (.new 35, 3) := by decide +kernel
theorem d_X_init_48 : decode mi_X_init.2.1 48 = .ok (.dup, 1) := by decide +kernel
theorem d_X_init_49 : decode mi_X_init.2.1 49 = .ok (.sipush 195, 3) := by decide +kernel
theorem d_X_init_52 : decode mi_X_init.2.1 52 = .ok (.invokespecial 37, 3) := by decide +kernel
theorem d_X_init_55 : decode mi_X_init.2.1 55 = .ok (.putfield 40, 3) := by decide +kernel
theorem d_X_init_58 : decode mi_X_init.2.1 58 = .ok (.aload_n 0, 1) := by decide +kernel
theorem d_X_init_59 : decode mi_X_init.2.1 59 = .ok (.new 35, 3) := by decide +kernel
theorem d_X_init_62 : decode mi_X_init.2.1 62 = .ok (.dup, 1) := by decide +kernel
theorem d_X_init_63 : decode mi_X_init.2.1 63 = .ok (.bipush 61, 2) := by decide +kernel
theorem d_X_init_65 : decode mi_X_init.2.1 65 = .ok (.invokespecial 37, 3) := by decide +kernel
theorem d_X_init_68 : decode mi_X_init.2.1 68 = .ok (.putfield 44, 3) := by decide +kernel
theorem d_X_init_71 : decode mi_X_init.2.1 71 = .ok (.aload_n 0, 1) := by decide +kernel
theorem d_X_init_72 : decode mi_X_init.2.1 72 = .ok (.iconst 4, 1) := by decide +kernel
theorem d_X_init_73 : decode mi_X_init.2.1 73 = .ok (.newarray .int, 2) := by decide +kernel
theorem d_X_init_75 : decode mi_X_init.2.1 75 = .ok (.putfield 47, 3) := by decide +kernel
theorem d_X_init_78 : decode mi_X_init.2.1 78 = .ok (.iconst 0, 1) := by decide +kernel
theorem d_X_init_79 : decode mi_X_init.2.1 79 = .ok (.istore_n 1, 1) := by decide +kernel
theorem d_X_init_80 : decode mi_X_init.2.1 80 = .ok (.iload_n 1, 1) := by decide +kernel
theorem d_X_init_81 : decode mi_X_init.2.1 81 = .ok (.bipush 16, 2) := by decide +kernel
theorem d_X_init_83 : decode mi_X_init.2.1 83 = .ok (.if_icmp .ge 22, 3) := by decide +kernel
theorem d_X_init_86 : decode mi_X_init.2.1 86 = .ok (.aload_n 0, 1) := by decide +kernel
theorem d_X_init_87 : decode mi_X_init.2.1 87 = .ok (.getfield 11, 3) := by decide +kernel
theorem d_X_init_90 : decode mi_X_init.2.1 90 = .ok (.iload_n 1, 1) := by decide +kernel
theorem d_X_init_91 : decode mi_X_init.2.1 91 = .ok (.new 9, 3) := by decide +kernel
theorem d_X_init_94 : decode mi_X_init.2.1 94 = .ok (.dup, 1) := by decide +kernel
theorem d_X_init_95 : decode mi_X_init.2.1 95 = .ok (.invokespecial 51, 3) := by decide +kernel
theorem d_X_init_98 : decode mi_X_init.2.1 98 = .ok (.aastore, 1) := by decide +kernel
theorem d_X_init_99 : decode mi_X_init.2.1 99 = .ok (.iinc 1 1, 3) := by decide +kernel
theorem d_X_init_102 : decode mi_X_init.2.1 102 = .ok (.goto (-22), 3) := by decide +kernel
theorem d_X_init_105 : decode mi_X_init.2.1 105 = .ok (.iconst 0, 1) := by decide +kernel
theorem d_X_init_106 : decode mi_X_init.2.1 106 = .ok (.istore_n 1, 1) := by decide +kernel
theorem d_X_init_107 : decode mi_X_init.2.1 107 = .ok (.iload_n 1, 1) := by decide +kernel
theorem d_X_init_108 : decode mi_X_init.2.1 108 = .ok (.bipush 6, 2) := by decide +kernel
theorem d_X_init_110 : decode mi_X_init.2.1 110 = .ok (.if_icmp .ge 22, 3) := by decide +kernel
theorem d_X_init_113 : decode mi_X_init.2.1 113 = .ok (.aload_n 0, 1) := by decide +kernel
theorem d_X_init_114 : decode mi_X_init.2.1 114 = .ok (.getfield 17, 3) := by decide +kernel
theorem d_X_init_117 : decode mi_X_init.2.1 117 = .ok (.iload_n 1, 1) := by decide +kernel
theorem d_X_init_118 : decode mi_X_init.2.1 118 = .ok (.new 15, 3) := by decide +kernel
theorem d_X_init_121 : decode mi_X_init.2.1 121 = .ok (.dup, 1) := by decide +kernel
theorem d_X_init_122 : decode mi_X_init.2.1 122 = .ok (.invokespecial 52, 3) := by decide +kernel
theorem d_X_init_125 : decode mi_X_init.2.1 125 = .ok (.aastore, 1) := by decide +kernel
theorem d_X_init_126 : decode mi_X_init.2.1 126 = .ok (.iinc 1 1, 3) := by decide +kernel
theorem d_X_init_129 : decode mi_X_init.2.1 129 = .ok (.goto (-22), 3) := by decide +kernel
theorem d_X_init_132 : decode mi_X_init.2.1 132 = .ok (.aload_n 0, 1) := by decide +kernel
theorem d_X_init_133 : decode mi_X_init.2.1 133 = .ok (.getfield 11, 3) := by decide +kernel
theorem d_X_init_136 : decode mi_X_init.2.1 136 = .ok (.iconst 0, 1) := by decide +kernel
theorem d_X_init_137 : decode mi_X_init.2.1 137 = .ok (.aaload, 1) := by decide +kernel
theorem d_X_init_138 : decode mi_X_init.2.1 138 = .ok (.iconst (-1), 1) := by decide +kernel
theorem d_X_init_139 : decode mi_X_init.2.1 139 = .ok (.iconst (-1), 1) := by decide +kernel
theorem d_X_init_140 : decode mi_X_init.2.1 140 = .ok (.invokevirtual 53, 3) := by decide +kernel
theorem d_X_init_143 : decode mi_X_init.2.1 143 = .ok (.aload_n 0, 1) := by decide +kernel
theorem d_X_init_144 : decode mi_X_init.2.1 144 = .ok (.iconst 1, 1) := by decide +kernel
theorem d_X_init_145 : decode mi_X_init.2.1 145 = .ok (.putfield 57, 3) := by decide +kernel
theorem d_X_init_148 : decode mi_X_init.2.1 148 = .ok (.aload_n 0, 1) := by decide +kernel
theorem d_X_init_149 : decode mi_X_init.2.1 149 = .ok (.iconst (-1), 1) := by decide +kernel
theorem d_X_init_150 : decode mi_X_init.2.1 150 = .ok (.putfield 61, 3) := by decide +kernel
theorem d_X_init_153 : decode mi_X_init.2.1 153 = .ok (.return_, 1) := by decide +kernel
theorem d_X_open_0 : decode mi_X_open.2.1 0 = .ok (.aload_n 0, 1) := by decide +kernel
theorem d_X_open_1 : decode mi_X_open.2.1 1 = .ok (.getfield 31, 3) := by decide +kernel
theorem d_X_open_4 : decode mi_X_open.2.1 4 = .ok (.invokevirtual 64, 3) := by decide +kernel
theorem d_X_open_7 : decode mi_X_open.2.1 7 = .ok (.aload_n 0, 1) := by decide +kernel
theorem d_X_open_8 : decode mi_X_open.2.1 8 = .ok (.iconst 0, 1) := by decide +kernel
theorem d_X_open_9 : decode mi_X_open.2.1 9 = .ok (.putfield 67, 3) := by decide +kernel
theorem d_X_open_12 : decode mi_X_open.2.1 12 = .ok (.aload_n 0, 1) := by decide +kernel
theorem d_X_open_13 : decode mi_X_open.2.1 13 = .ok (.getfield 24, 3) := by decide +kernel
theorem d_X_open_16 : decode mi_X_open.2.1 16 = .ok (.invokevirtual 70, 3) := by decide +kernel
theorem d_X_open_19 : decode mi_X_open.2.1 19 = .ok (.aload_n 0, 1) := by decide +kernel
theorem d_X_open_20 : decode mi_X_open.2.1 20 = .ok (.getfield 40, 3) := by decide +kernel
theorem d_X_open_23 : decode mi_X_open.2.1 23 = .ok (.invokevirtual 71, 3) := by decide +kernel
theorem d_X_open_26 : decode mi_X_open.2.1 26 = .ok (.aload_n 0, 1) := by decide +kernel
theorem d_X_open_27 : decode mi_X_open.2.1 27 = .ok (.iconst (-1), 1) := by decide +kernel
theorem d_X_open_28 : decode mi_X_open.2.1 28 = .ok (.putfield 61, 3) := by decide +kernel
theorem d_X_open_31 : decode mi_X_open.2.1 31 = .ok (.return_, 1) := by decide +kernel
theorem d_X_isOpen_0 : decode mi_X_isOpen.2.1 0 = .ok (.aload_n 0, 1) := by decide +kernel
theorem d_X_isOpen_1 : decode mi_X_isOpen.2.1 1 = .ok (.getfield 31, 3) := by decide +kernel
theorem d_X_isOpen_4 : decode mi_X_isOpen.2.1 4 = .ok (.getfield 74, 3) := by decide +kernel
theorem d_X_isOpen_7 : decode mi_X_isOpen.2.1 7 = .ok (.ireturn, 1) := by decide +kernel
theorem d_X_folder_0 : decode mi_X_folder.2.1 0 = .ok (.aload_n 0, 1) := by decide +kernel
theorem d_X_folder_1 : decode mi_X_folder.2.1 1 = .ok (.iload_n 1, 1) := by decide +kernel
theorem d_X_folder_2 : decode mi_X_folder.2.1 2 = .ok (.iconst (-1), 1) := by decide +kernel
theorem d_X_folder_3 : decode mi_X_folder.2.1 3 = .ok (.invokevirtual 78, 3) := by decide +kernel
theorem d_X_folder_6 : decode mi_X_folder.2.1 6 = .ok (.ireturn, 1) := by decide +kernel
theorem d_X_addNode_0 : decode mi_X_addNode.2.1 0 = .ok (.aload_n 0, 1) := by decide +kernel
theorem d_X_addNode_1 : decode mi_X_addNode.2.1 1 = .ok (.iload_n 1, 1) := by decide +kernel
theorem d_X_addNode_2 : decode mi_X_addNode.2.1 2 = .ok (.invokevirtual 157, 3) := by decide +kernel
theorem d_X_addNode_5 : decode mi_X_addNode.2.1 5 = .ok (.ifCond .eq 20, 3) := by decide +kernel
theorem d_X_addNode_8 : decode mi_X_addNode.2.1 8 = .ok (.aload_n 0, 1) := by decide +kernel
theorem d_X_addNode_9 : decode mi_X_addNode.2.1 9 = .ok (.iload_n 1, 1) := by decide +kernel
theorem d_X_addNode_10 : decode mi_X_addNode.2.1 10 = .ok (.invokevirtual 86, 3) := by decide +kernel
theorem d_X_addNode_13 : decode mi_X_addNode.2.1 13 = .ok (.ifCond .ne 12, 3) := by decide +kernel
theorem d_X_addNode_16 : decode mi_X_addNode.2.1 16 = .ok (.aload_n 0, 1) := by decide +kernel
theorem d_X_addNode_17 : decode mi_X_addNode.2.1 17 = .ok (.getfield 57, 3) := by decide +kernel
theorem d_X_addNode_20 : decode mi_X_addNode.2.1 20 = .ok (.bipush 16, 2) := by decide +kernel
theorem d_X_addNode_22 : decode mi_X_addNode.2.1 22 = .ok (.if_icmp .ne 5, 3) := by decide +kernel
theorem d_X_addNode_25 : decode mi_X_addNode.2.1 25 = .ok (.iconst (-1), 1) := by decide +kernel
theorem d_X_addNode_26 : decode mi_X_addNode.2.1 26 = .ok (.ireturn, 1) := by decide +kernel
theorem d_X_addNode_27 : decode mi_X_addNode.2.1 27 = .ok (.aload_n 0, 1) := by decide +kernel
theorem d_X_addNode_28 : decode mi_X_addNode.2.1 28 = .ok (.getfield 11, 3) := by decide +kernel
theorem d_X_addNode_31 : decode mi_X_addNode.2.1 31 = .ok (.aload_n 0, 1) := by decide +kernel
theorem d_X_addNode_32 : decode mi_X_addNode.2.1 32 = .ok (.getfield 57, 3) := by decide +kernel
theorem d_X_addNode_35 : decode mi_X_addNode.2.1 35 = .ok (.aaload, 1) := by decide +kernel
theorem d_X_addNode_36 : decode mi_X_addNode.2.1 36 = .ok (.iload_n 1, 1) := by decide +kernel
theorem d_X_addNode_37 : decode mi_X_addNode.2.1 37 = .ok (.iload_n 2, 1) := by decide +kernel
theorem d_X_addNode_38 : decode mi_X_addNode.2.1 38 = .ok (.invokevirtual 53, 3) := by decide +kernel
theorem d_X_addNode_41 : decode mi_X_addNode.2.1 41 = .ok (.aload_n 0, 1) := by decide +kernel
theorem d_X_addNode_42 : decode mi_X_addNode.2.1 42 = .ok (.dup, 1) := by decide +kernel
theorem d_X_addNode_43 : decode mi_X_addNode.2.1 43 = .ok (.getfield 57, 3) := by decide +kernel
theorem d_X_addNode_46 : decode mi_X_addNode.2.1 46 = .ok (.iconst 1, 1) := by decide +kernel
theorem d_X_addNode_47 : decode mi_X_addNode.2.1 47 = .ok (.iadd, 1) := by decide +kernel
theorem d_X_addNode_48 : decode mi_X_addNode.2.1 48 = .ok (.putfield 57, 3) := by decide +kernel
theorem d_X_addNode_51 : decode mi_X_addNode.2.1 51 = .ok (.aload_n 0, 1) := by decide +kernel
theorem d_X_addNode_52 : decode mi_X_addNode.2.1 52 = .ok (.getfield 57, 3) := by decide +kernel
theorem d_X_addNode_55 : decode mi_X_addNode.2.1 55 = .ok (.iconst 1, 1) := by decide +kernel
theorem d_X_addNode_56 : decode mi_X_addNode.2.1 56 = .ok (.isub, 1) := by decide +kernel
theorem d_X_addNode_57 : decode mi_X_addNode.2.1 57 = .ok (.ireturn, 1) := by decide +kernel
theorem d_X_isNode_0 : decode mi_X_isNode.2.1 0 = .ok (.iload_n 1, 1) := by decide +kernel
theorem d_X_isNode_1 : decode mi_X_isNode.2.1 1 = .ok (.ifCond .lt 15, 3) := by decide +kernel
theorem d_X_isNode_4 : decode mi_X_isNode.2.1 4 = .ok (.iload_n 1, 1) := by decide +kernel
theorem d_X_isNode_5 : decode mi_X_isNode.2.1 5 = .ok (.aload_n 0, 1) := by decide +kernel
theorem d_X_isNode_6 : decode mi_X_isNode.2.1 6 = .ok (.getfield 57, 3) := by decide +kernel
theorem d_X_isNode_9 : decode mi_X_isNode.2.1 9 = .ok (.if_icmp .ge 7, 3) := by decide +kernel
theorem d_X_isNode_12 : decode mi_X_isNode.2.1 12 = .ok (.iconst 1, 1) := by decide +kernel
theorem d_X_isNode_13 : decode mi_X_isNode.2.1 13 = .ok (.goto 4, 3) := by decide +kernel
theorem d_X_isNode_16 : decode mi_X_isNode.2.1 16 = .ok (.iconst 0, 1) := by decide +kernel
theorem d_X_isNode_17 : decode mi_X_isNode.2.1 17 = .ok (.ireturn, 1) := by decide +kernel
theorem d_X_isVariable_0 : decode mi_X_isVariable.2.1 0 = .ok (.aload_n 0, 1) := by decide +kernel
theorem d_X_isVariable_1 : decode mi_X_isVariable.2.1 1 = .ok (.iload_n 1, 1) := by decide +kernel
theorem d_X_isVariable_2 : decode mi_X_isVariable.2.1 2 = .ok (.invokevirtual 157, 3) := by decide +kernel
theorem d_X_isVariable_5 : decode mi_X_isVariable.2.1 5 = .ok (.ifCond .eq 20, 3) := by decide +kernel
theorem d_X_isVariable_8 : decode mi_X_isVariable.2.1 8 = .ok (.aload_n 0, 1) := by decide +kernel
theorem d_X_isVariable_9 : decode mi_X_isVariable.2.1 9 = .ok (.getfield 11, 3) := by decide +kernel
theorem d_X_isVariable_12 : decode mi_X_isVariable.2.1 12 = .ok (.iload_n 1, 1) := by decide +kernel
theorem d_X_isVariable_13 : decode mi_X_isVariable.2.1 13 = .ok (.aaload, 1) := by decide +kernel
theorem d_X_isVariable_14 : decode mi_X_isVariable.2.1 14 = .ok (.getfield 89, 3) := by decide +kernel
theorem d_X_isVariable_17 : decode mi_X_isVariable.2.1 17 = .ok (.iconst (-1), 1) := by decide +kernel
theorem d_X_isVariable_18 : decode mi_X_isVariable.2.1 18 = .ok (.if_icmp .eq 7, 3) := by decide +kernel
theorem d_X_isVariable_21 : decode mi_X_isVariable.2.1 21 = .ok (.iconst 1, 1) := by decide +kernel
theorem d_X_isVariable_22 : decode mi_X_isVariable.2.1 22 = .ok (.goto 4, 3) := by decide +kernel
theorem d_X_isVariable_25 : decode mi_X_isVariable.2.1 25 = .ok (.iconst 0, 1) := by decide +kernel
theorem d_X_isVariable_26 : decode mi_X_isVariable.2.1 26 = .ok (.ireturn, 1) := by decide +kernel
theorem d_X_variable_0 : decode mi_X_variable.2.1 0 = .ok (.iload_n 2, 1) := by decide +kernel
theorem d_X_variable_1 : decode mi_X_variable.2.1 1 = .ok (.invokestatic 82, 3) := by decide +kernel
theorem d_X_variable_4 : decode mi_X_variable.2.1 4 = .ok (.ifCond .eq 12, 3) := by decide +kernel
theorem d_X_variable_7 : decode mi_X_variable.2.1 7 = .ok (.aload_n 0, 1) := by decide +kernel
theorem d_X_variable_8 : decode mi_X_variable.2.1 8 = .ok (.iload_n 1, 1) := by decide +kernel
theorem d_X_variable_9 : decode mi_X_variable.2.1 9 = .ok (.iload_n 2, 1) := by decide +kernel
theorem d_X_variable_10 : decode mi_X_variable.2.1 10 = .ok (.invokevirtual 78, 3) := by decide +kernel
theorem d_X_variable_13 : decode mi_X_variable.2.1 13 = .ok (.goto 4, 3) := by decide +kernel
theorem d_X_variable_16 : decode mi_X_variable.2.1 16 = .ok (.iconst (-1), 1) := by decide +kernel
theorem d_X_variable_17 : decode mi_X_variable.2.1 17 = .ok (.ireturn, 1) := by decide +kernel
theorem d_X_isVariableType_0 : decode mi_X_isVariableType.2.1 0 = .ok (.iload_n 0, 1) := by decide +kernel
theorem d_X_isVariableType_1 : decode mi_X_isVariableType.2.1 1 = .ok (.ifCond .eq 26, 3) := by decide +kernel
theorem d_X_isVariableType_4 : decode mi_X_isVariableType.2.1 4 = .ok (.iload_n 0, 1) := by decide +kernel
theorem d_X_isVariableType_5 : decode mi_X_isVariableType.2.1 5 = .ok (.iconst 1, 1) := by decide +kernel
theorem d_X_isVariableType_6 : decode mi_X_isVariableType.2.1 6 = .ok (.if_icmp .eq 21, 3) := by decide +kernel
theorem d_X_isVariableType_9 : decode mi_X_isVariableType.2.1 9 = .ok (.iload_n 0, 1) := by decide +kernel
theorem d_X_isVariableType_10 : decode mi_X_isVariableType.2.1 10 = .ok (.bipush 6, 2) := by decide +kernel
theorem d_X_isVariableType_12 : decode mi_X_isVariableType.2.1 12 = .ok (.if_icmp .eq 15, 3) := by decide +kernel
theorem d_X_isVariableType_15 : decode mi_X_isVariableType.2.1 15 = .ok (.iload_n 0, 1) := by decide +kernel
theorem d_X_isVariableType_16 : decode mi_X_isVariableType.2.1 16 = .ok (.bipush 8, 2) := by decide +kernel
theorem d_X_isVariableType_18 : decode mi_X_isVariableType.2.1 18 = .ok (.if_icmp .eq 9, 3) := by decide +kernel
theorem d_X_isVariableType_21 : decode mi_X_isVariableType.2.1 21 = .ok (.iload_n 0, 1) := by decide +kernel
theorem d_X_isVariableType_22 : decode mi_X_isVariableType.2.1 22 = .ok (.bipush 12, 2) := by decide +kernel
theorem d_X_isVariableType_24 : decode mi_X_isVariableType.2.1 24 = .ok (.if_icmp .ne 7, 3) := by decide +kernel
theorem d_X_isVariableType_27 : decode mi_X_isVariableType.2.1 27 = .ok (.iconst 1, 1) := by decide +kernel
theorem d_X_isVariableType_28 : decode mi_X_isVariableType.2.1 28 = .ok (.goto 4, 3) := by decide +kernel
theorem d_X_isVariableType_31 : decode mi_X_isVariableType.2.1 31 = .ok (.iconst 0, 1) := by decide +kernel
theorem d_X_isVariableType_32 : decode mi_X_isVariableType.2.1 32 = .ok (.ireturn, 1) := by decide +kernel
theorem d_X_poke_0 : decode mi_X_poke.2.1 0 = .ok (.aload_n 0, 1) := by decide +kernel
theorem d_X_poke_1 : decode mi_X_poke.2.1 1 = .ok (.iload_n 1, 1) := by decide +kernel
theorem d_X_poke_2 : decode mi_X_poke.2.1 2 = .ok (.invokevirtual 86, 3) := by decide +kernel
theorem d_X_poke_5 : decode mi_X_poke.2.1 5 = .ok (.ifCond .ne 5, 3) := by decide +kernel
theorem d_X_poke_8 : decode mi_X_poke.2.1 8 = .ok (.iconst 0, 1) := by decide +kernel
theorem d_X_poke_9 : decode mi_X_poke.2.1 9 = .ok (.ireturn, 1) := by decide +kernel
theorem d_X_poke_10 : decode mi_X_poke.2.1 10 = .ok (.aload_n 0, 1) := by decide +kernel
theorem d_X_poke_11 : decode mi_X_poke.2.1 11 = .ok (.getfield 11, 3) := by decide +kernel
theorem d_X_poke_14 : decode mi_X_poke.2.1 14 = .ok (.iload_n 1, 1) := by decide +kernel
theorem d_X_poke_15 : decode mi_X_poke.2.1 15 = .ok (.aaload, 1) := by decide +kernel
theorem d_X_poke_16 : decode mi_X_poke.2.1 16 = .ok (.getfield 89, 3) := by decide +kernel
theorem d_X_poke_19 : decode mi_X_poke.2.1 19 = .ok (.istore 4, 2) := by decide +kernel
theorem d_X_poke_21 : decode mi_X_poke.2.1 21 = .ok (.aload_n 0, 1) := by decide +kernel
theorem d_X_poke_22 : decode mi_X_poke.2.1 22 = .ok (.getfield 44, 3) := by decide +kernel
theorem d_X_poke_25 : decode mi_X_poke.2.1 25 = .ok (.invokevirtual 71, 3) := by decide +kernel
theorem d_X_poke_28 : decode mi_X_poke.2.1 28 = .ok (.aload_n 0, 1) := by decide +kernel
theorem d_X_poke_29 : decode mi_X_poke.2.1 29 = .ok (.getfield 44, 3) := by decide +kernel
theorem d_X_poke_32 : decode mi_X_poke.2.1 32 = .ok (.iload 4, 2) := by decide +kernel
theorem d_X_poke_34 : decode mi_X_poke.2.1 34 = .ok (.invokevirtual 92, 3) := by decide +kernel
theorem d_X_poke_37 : decode mi_X_poke.2.1 37 = .ok (.iload 4, 2) := by decide +kernel
theorem d_X_poke_39 : decode mi_X_poke.2.1 39 = .ok (.lookupswitch 79 #[(1, 33), (6, 54), (8, 66)], 33) := by decide +kernel
theorem d_X_poke_72 : decode mi_X_poke.2.1 72 = .ok (.aload_n 0, 1) := by decide +kernel
theorem d_X_poke_73 : decode mi_X_poke.2.1 73 = .ok (.getfield 44, 3) := by decide +kernel
theorem d_X_poke_76 : decode mi_X_poke.2.1 76 = .ok (.lload_n 2, 1) := by decide +kernel
theorem d_X_poke_77 : decode mi_X_poke.2.1 77 = .ok (.lconst 0, 1) := by decide +kernel
theorem d_X_poke_78 : decode mi_X_poke.2.1 78 = .ok (.lcmp, 1) := by decide +kernel
theorem d_X_poke_79 : decode mi_X_poke.2.1 79 = .ok (.ifCond .eq 7, 3) := by decide +kernel
theorem d_X_poke_82 : decode mi_X_poke.2.1 82 = .ok (.iconst 1, 1) := by decide +kernel
theorem d_X_poke_83 : decode mi_X_poke.2.1 83 = .ok (.goto 4, 3) := by decide +kernel
theorem d_X_poke_86 : decode mi_X_poke.2.1 86 = .ok (.iconst 0, 1) := by decide +kernel
theorem d_X_poke_87 : decode mi_X_poke.2.1 87 = .ok (.invokevirtual 92, 3) := by decide +kernel
theorem d_X_poke_90 : decode mi_X_poke.2.1 90 = .ok (.goto 30, 3) := by decide +kernel
theorem d_X_poke_93 : decode mi_X_poke.2.1 93 = .ok (.aload_n 0, 1) := by decide +kernel
theorem d_X_poke_94 : decode mi_X_poke.2.1 94 = .ok (.getfield 44, 3) := by decide +kernel
theorem d_X_poke_97 : decode mi_X_poke.2.1 97 = .ok (.lload_n 2, 1) := by decide +kernel
theorem d_X_poke_98 : decode mi_X_poke.2.1 98 = .ok (.iconst 4, 1) := by decide +kernel
theorem d_X_poke_99 : decode mi_X_poke.2.1 99 = .ok (.invokevirtual 95, 3) := by decide +kernel
theorem d_X_poke_102 : decode mi_X_poke.2.1 102 = .ok (.goto 18, 3) := by decide +kernel
theorem d_X_poke_105 : decode mi_X_poke.2.1 105 = .ok (.aload_n 0, 1) := by decide +kernel
theorem d_X_poke_106 : decode mi_X_poke.2.1 106 = .ok (.getfield 44, 3) := by decide +kernel
theorem d_X_poke_109 : decode mi_X_poke.2.1 109 = .ok (.lload_n 2, 1) := by decide +kernel
theorem d_X_poke_110 : decode mi_X_poke.2.1 110 = .ok (.bipush 8, 2) := by decide +kernel
theorem d_X_poke_112 : decode mi_X_poke.2.1 112 = .ok (.invokevirtual 95, 3) := by decide +kernel
theorem d_X_poke_115 : decode mi_X_poke.2.1 115 = .ok (.goto 5, 3) := by decide +kernel
theorem d_X_poke_118 : decode mi_X_poke.2.1 118 = .ok (.iconst 0, 1) := by decide +kernel
theorem d_X_poke_119 : decode mi_X_poke.2.1 119 = .ok (.ireturn, 1) := by decide +kernel
theorem d_X_poke_120 : decode mi_X_poke.2.1 120 = .ok (.aload_n 0, 1) := by decide +kernel
theorem d_X_poke_121 : decode mi_X_poke.2.1 121 = .ok (.iload_n 1, 1) := by decide +kernel
theorem d_X_poke_122 : decode mi_X_poke.2.1 122 = .ok (.invokevirtual 99, 3) := by decide +kernel
theorem d_X_poke_125 : decode mi_X_poke.2.1 125 = .ok (.ireturn, 1) := by decide +kernel
theorem d_X_changeValue_0 : decode mi_X_changeValue.2.1 0 = .ok (.aload_n 0, 1) := by decide +kernel
theorem d_X_changeValue_1 : decode mi_X_changeValue.2.1 1 = .ok (.getfield 11, 3) := by decide +kernel
theorem d_X_changeValue_4 : decode mi_X_changeValue.2.1 4 = .ok (.iload_n 1, 1) := by decide +kernel
theorem d_X_changeValue_5 : decode mi_X_changeValue.2.1 5 = .ok (.aaload, 1) := by decide +kernel
theorem d_X_changeValue_6 : decode mi_X_changeValue.2.1 6 = .ok (.getfield 154, 3) := by decide +kernel
theorem d_X_changeValue_9 : decode mi_X_changeValue.2.1 9 = .ok (.astore_n 2, 1) := by decide +kernel
theorem d_X_changeValue_10 : decode mi_X_changeValue.2.1 10 = .ok (.aload_n 2, 1) := by decide +kernel
theorem d_X_changeValue_11 : decode mi_X_changeValue.2.1 11 = .ok (.aload_n 0, 1) := by decide +kernel
theorem d_X_changeValue_12 : decode mi_X_changeValue.2.1 12 = .ok (.getfield 44, 3) := by decide +kernel
theorem d_X_changeValue_15 : decode mi_X_changeValue.2.1 15 = .ok (.invokevirtual 160, 3) := by decide +kernel
theorem d_X_changeValue_18 : decode mi_X_changeValue.2.1 18 = .ok (.ifCond .eq 5, 3) := by decide +kernel
theorem d_X_changeValue_21 : decode mi_X_changeValue.2.1 21 = .ok (.iconst 0, 1) := by decide +kernel
theorem d_X_changeValue_22 : decode mi_X_changeValue.2.1 22 = .ok (.ireturn, 1) := by decide +kernel
theorem d_X_changeValue_23 : decode mi_X_changeValue.2.1 23 = .ok (.aload_n 2, 1) := by decide +kernel
theorem d_X_changeValue_24 : decode mi_X_changeValue.2.1 24 = .ok (.invokevirtual 71, 3) := by decide +kernel
theorem d_X_changeValue_27 : decode mi_X_changeValue.2.1 27 = .ok (.aload_n 2, 1) := by decide +kernel
theorem d_X_changeValue_28 : decode mi_X_changeValue.2.1 28 = .ok (.aload_n 0, 1) := by decide +kernel
theorem d_X_changeValue_29 : decode mi_X_changeValue.2.1 29 = .ok (.getfield 44, 3) := by decide +kernel
theorem d_X_changeValue_32 : decode mi_X_changeValue.2.1 32 = .ok (.invokevirtual 164, 3) := by decide +kernel
theorem d_X_changeValue_35 : decode mi_X_changeValue.2.1 35 = .ok (.iconst 0, 1) := by decide +kernel
theorem d_X_changeValue_36 : decode mi_X_changeValue.2.1 36 = .ok (.istore_n 3, 1) := by decide +kernel
theorem d_X_changeValue_37 : decode mi_X_changeValue.2.1 37 = .ok (.iload_n 3, 1) := by decide +kernel
theorem d_X_changeValue_38 : decode mi_X_changeValue.2.1 38 = .ok (.aload_n 0, 1) := by decide +kernel
theorem d_X_changeValue_39 : decode mi_X_changeValue.2.1 39 = .ok (.getfield 67, 3) := by decide +kernel
theorem d_X_changeValue_42 : decode mi_X_changeValue.2.1 42 = .ok (.if_icmp .ge 32, 3) := by decide +kernel
theorem d_X_changeValue_45 : decode mi_X_changeValue.2.1 45 = .ok (.aload_n 0, 1) := by decide +kernel
theorem d_X_changeValue_46 : decode mi_X_changeValue.2.1 46 = .ok (.getfield 17, 3) := by decide +kernel
theorem d_X_changeValue_49 : decode mi_X_changeValue.2.1 49 = .ok (.iload_n 3, 1) := by decide +kernel
theorem d_X_changeValue_50 : decode mi_X_changeValue.2.1 50 = .ok (.aaload, 1) := by decide +kernel
theorem d_X_changeValue_51 : decode mi_X_changeValue.2.1 51 = .ok (.getfield 168, 3) := by decide +kernel
theorem d_X_changeValue_54 : decode mi_X_changeValue.2.1 54 = .ok (.iload_n 1, 1) := by decide +kernel
theorem d_X_changeValue_55 : decode mi_X_changeValue.2.1 55 = .ok (.if_icmp .ne 13, 3) := by decide +kernel
theorem d_X_changeValue_58 : decode mi_X_changeValue.2.1 58 = .ok (.aload_n 0, 1) := by decide +kernel
theorem d_X_changeValue_59 : decode mi_X_changeValue.2.1 59 = .ok (.getfield 17, 3) := by decide +kernel
theorem d_X_changeValue_62 : decode mi_X_changeValue.2.1 62 = .ok (.iload_n 3, 1) := by decide +kernel
theorem d_X_changeValue_63 : decode mi_X_changeValue.2.1 63 = .ok (.aaload, 1) := by decide +kernel
theorem d_X_changeValue_64 : decode mi_X_changeValue.2.1 64 = .ok (.aload_n 2, 1) := by decide +kernel
theorem d_X_changeValue_65 : decode mi_X_changeValue.2.1 65 = .ok (.invokevirtual 171, 3) := by decide +kernel
theorem d_X_changeValue_68 : decode mi_X_changeValue.2.1 68 = .ok (.iinc 3 1, 3) := by decide +kernel
theorem d_X_changeValue_71 : decode mi_X_changeValue.2.1 71 = .ok (.goto (-34), 3) := by decide +kernel
theorem d_X_changeValue_74 : decode mi_X_changeValue.2.1 74 = .ok (.iconst 1, 1) := by decide +kernel
theorem d_X_changeValue_75 : decode mi_X_changeValue.2.1 75 = .ok (.ireturn, 1) := by decide +kernel
theorem d_X_chunk_0 : decode mi_X_chunk.2.1 0 = .ok (.aload_n 0, 1) := by decide +kernel
theorem d_X_chunk_1 : decode mi_X_chunk.2.1 1 = .ok (.getfield 31, 3) := by decide +kernel
theorem d_X_chunk_4 : decode mi_X_chunk.2.1 4 = .ok (.getfield 74, 3) := by decide +kernel
theorem d_X_chunk_7 : decode mi_X_chunk.2.1 7 = .ok (.ifCond .eq 32, 3) := by decide +kernel
theorem d_X_chunk_10 : decode mi_X_chunk.2.1 10 = .ok (.iload_n 1, 1) := by decide +kernel
theorem d_X_chunk_11 : decode mi_X_chunk.2.1 11 = .ok (.ifCond .lt 28, 3) := by decide +kernel
theorem d_X_chunk_14 : decode mi_X_chunk.2.1 14 = .ok (.iload_n 1, 1) := by decide +kernel
theorem d_X_chunk_15 : decode mi_X_chunk.2.1 15 = .ok (.iconst 2, 1) := by decide +kernel
theorem d_X_chunk_16 : decode mi_X_chunk.2.1 16 = .ok (.if_icmp .gt 23, 3) := by decide +kernel
theorem d_X_chunk_19 : decode mi_X_chunk.2.1 19 = .ok (.iload_n 2, 1) := by decide +kernel
theorem d_X_chunk_20 : decode mi_X_chunk.2.1 20 = .ok (.ifCond .lt 19, 3) := by decide +kernel
theorem d_X_chunk_23 : decode mi_X_chunk.2.1 23 = .ok (.iload_n 3, 1) := by decide +kernel
theorem d_X_chunk_24 : decode mi_X_chunk.2.1 24 = .ok (.ifCond .lt 15, 3) := by decide +kernel
theorem d_X_chunk_27 : decode mi_X_chunk.2.1 27 = .ok (.iload 6, 2) := by decide +kernel
theorem d_X_chunk_29 : decode mi_X_chunk.2.1 29 = .ok (.ifCond .lt 10, 3) := by decide +kernel
theorem d_X_chunk_32 : decode mi_X_chunk.2.1 32 = .ok (.iload 6, 2) := by decide +kernel
theorem d_X_chunk_34 : decode mi_X_chunk.2.1 34 = .ok (.bipush 8, 2) := by decide +kernel
theorem d_X_chunk_36 : decode mi_X_chunk.2.1 36 = .ok (.if_icmp .le 5, 3) := by decide +kernel
theorem d_X_chunk_39 : decode mi_X_chunk.2.1 39 = .ok (.iconst (-1), 1) := by decide +kernel
theorem d_X_chunk_40 : decode mi_X_chunk.2.1 40 = .ok (.ireturn, 1) := by decide +kernel
theorem d_X_chunk_41 : decode mi_X_chunk.2.1 41 = .ok (.aload_n 0, 1) := by decide +kernel
theorem d_X_chunk_42 : decode mi_X_chunk.2.1 42 = .ok (.getfield 31, 3) := by decide +kernel
theorem d_X_chunk_45 : decode mi_X_chunk.2.1 45 = .ok (.iload_n 1, 1) := by decide +kernel
theorem d_X_chunk_46 : decode mi_X_chunk.2.1 46 = .ok (.iload_n 2, 1) := by decide +kernel
theorem d_X_chunk_47 : decode mi_X_chunk.2.1 47 = .ok (.iload_n 3, 1) := by decide +kernel
theorem d_X_chunk_48 : decode mi_X_chunk.2.1 48 = .ok (.iload 6, 2) := by decide +kernel
theorem d_X_chunk_50 : decode mi_X_chunk.2.1 50 = .ok (.invokevirtual 102, 3) := by decide +kernel
theorem d_X_chunk_53 : decode mi_X_chunk.2.1 53 = .ok (.ifCond .eq 12, 3) := by decide +kernel
theorem d_X_chunk_56 : decode mi_X_chunk.2.1 56 = .ok (.aload_n 0, 1) := by decide +kernel
theorem d_X_chunk_57 : decode mi_X_chunk.2.1 57 = .ok (.getfield 31, 3) := by decide +kernel
theorem d_X_chunk_60 : decode mi_X_chunk.2.1 60 = .ok (.invokevirtual 106, 3) := by decide +kernel
theorem d_X_chunk_63 : decode mi_X_chunk.2.1 63 = .ok (.iconst 2, 1) := by decide +kernel
theorem d_X_chunk_64 : decode mi_X_chunk.2.1 64 = .ok (.ireturn, 1) := by decide +kernel
theorem d_X_chunk_65 : decode mi_X_chunk.2.1 65 = .ok (.aload_n 0, 1) := by decide +kernel
theorem d_X_chunk_66 : decode mi_X_chunk.2.1 66 = .ok (.getfield 31, 3) := by decide +kernel
theorem d_X_chunk_69 : decode mi_X_chunk.2.1 69 = .ok (.iload_n 1, 1) := by decide +kernel
theorem d_X_chunk_70 : decode mi_X_chunk.2.1 70 = .ok (.iload_n 2, 1) := by decide +kernel
theorem d_X_chunk_71 : decode mi_X_chunk.2.1 71 = .ok (.iload_n 3, 1) := by decide +kernel
theorem d_X_chunk_72 : decode mi_X_chunk.2.1 72 = .ok (.lload 4, 2) := by decide +kernel
theorem d_X_chunk_74 : decode mi_X_chunk.2.1 74 = .ok (.iload 6, 2) := by decide +kernel
theorem d_X_chunk_76 : decode mi_X_chunk.2.1 76 = .ok (.invokevirtual 109, 3) := by decide +kernel
theorem d_X_chunk_79 : decode mi_X_chunk.2.1 79 = .ok (.iload_n 1, 1) := by decide +kernel
theorem d_X_chunk_80 : decode mi_X_chunk.2.1 80 = .ok (.iconst 1, 1) := by decide +kernel
theorem d_X_chunk_81 : decode mi_X_chunk.2.1 81 = .ok (.if_icmp .eq 5, 3) := by decide +kernel
theorem d_X_chunk_84 : decode mi_X_chunk.2.1 84 = .ok (.iconst 0, 1) := by decide +kernel
theorem d_X_chunk_85 : decode mi_X_chunk.2.1 85 = .ok (.ireturn, 1) := by decide +kernel
theorem d_X_chunk_86 : decode mi_X_chunk.2.1 86 = .ok (.aload_n 0, 1) := by decide +kernel
theorem d_X_chunk_87 : decode mi_X_chunk.2.1 87 = .ok (.iload_n 3, 1) := by decide +kernel
theorem d_X_chunk_88 : decode mi_X_chunk.2.1 88 = .ok (.putfield 61, 3) := by decide +kernel
theorem d_X_chunk_91 : decode mi_X_chunk.2.1 91 = .ok (.aload_n 0, 1) := by decide +kernel
theorem d_X_chunk_92 : decode mi_X_chunk.2.1 92 = .ok (.getfield 40, 3) := by decide +kernel
theorem d_X_chunk_95 : decode mi_X_chunk.2.1 95 = .ok (.invokevirtual 71, 3) := by decide +kernel
theorem d_X_chunk_98 : decode mi_X_chunk.2.1 98 = .ok (.aload_n 0, 1) := by decide +kernel
theorem d_X_chunk_99 : decode mi_X_chunk.2.1 99 = .ok (.getfield 40, 3) := by decide +kernel
theorem d_X_chunk_102 : decode mi_X_chunk.2.1 102 = .ok (.iconst 0, 1) := by decide +kernel
theorem d_X_chunk_103 : decode mi_X_chunk.2.1 103 = .ok (.invokevirtual 92, 3) := by decide +kernel
theorem d_X_chunk_106 : decode mi_X_chunk.2.1 106 = .ok (.aload_n 0, 1) := by decide +kernel
theorem d_X_chunk_107 : decode mi_X_chunk.2.1 107 = .ok (.getfield 40, 3) := by decide +kernel
theorem d_X_chunk_110 : decode mi_X_chunk.2.1 110 = .ok (.iconst 0, 1) := by decide +kernel
theorem d_X_chunk_111 : decode mi_X_chunk.2.1 111 = .ok (.aload_n 0, 1) := by decide +kernel
theorem d_X_chunk_112 : decode mi_X_chunk.2.1 112 = .ok (.aload_n 0, 1) := by decide +kernel
theorem d_X_chunk_113 : decode mi_X_chunk.2.1 113 = .ok (.getfield 31, 3) := by decide +kernel
theorem d_X_chunk_116 : decode mi_X_chunk.2.1 116 = .ok (.getfield 113, 3) := by decide +kernel
theorem d_X_chunk_119 : decode mi_X_chunk.2.1 119 = .ok (.invokevirtual 117, 3) := by decide +kernel
theorem d_X_chunk_122 : decode mi_X_chunk.2.1 122 = .ok (.invokevirtual 121, 3) := by decide +kernel
theorem d_X_chunk_125 : decode mi_X_chunk.2.1 125 = .ok (.iconst 1, 1) := by decide +kernel
theorem d_X_chunk_126 : decode mi_X_chunk.2.1 126 = .ok (.ireturn, 1) := by decide +kernel
theorem d_X_serve_0 : decode mi_X_serve.2.1 0 = .ok (.aload_n 1, 1) := by decide +kernel
theorem d_X_serve_1 : decode mi_X_serve.2.1 1 = .ok (.invokevirtual 174, 3) := by decide +kernel
theorem d_X_serve_4 : decode mi_X_serve.2.1 4 = .ok (.aload_n 1, 1) := by decide +kernel
theorem d_X_serve_5 : decode mi_X_serve.2.1 5 = .ok (.invokevirtual 177, 3) := by decide +kernel
theorem d_X_serve_8 : decode mi_X_serve.2.1 8 = .ok (.ifCond .ne 5, 3) := by decide +kernel
theorem d_X_serve_11 : decode mi_X_serve.2.1 11 = .ok (.iconst 1, 1) := by decide +kernel
theorem d_X_serve_12 : decode mi_X_serve.2.1 12 = .ok (.ireturn, 1) := by decide +kernel
theorem d_X_serve_13 : decode mi_X_serve.2.1 13 = .ok (.aload_n 1, 1) := by decide +kernel
theorem d_X_serve_14 : decode mi_X_serve.2.1 14 = .ok (.invokevirtual 181, 3) := by decide +kernel
theorem d_X_serve_17 : decode mi_X_serve.2.1 17 = .ok (.tableswitch 75 1 6 #[39, 45, 51, 57, 63, 69], 39) := by decide +kernel
theorem d_X_serve_56 : decode mi_X_serve.2.1 56 = .ok (.aload_n 0, 1) := by decide +kernel
theorem d_X_serve_57 : decode mi_X_serve.2.1 57 = .ok (.aload_n 1, 1) := by decide +kernel
theorem d_X_serve_58 : decode mi_X_serve.2.1 58 = .ok (.invokevirtual 184, 3) := by decide +kernel
theorem d_X_serve_61 : decode mi_X_serve.2.1 61 = .ok (.ireturn, 1) := by decide +kernel
theorem d_X_serve_62 : decode mi_X_serve.2.1 62 = .ok (.aload_n 0, 1) := by decide +kernel
theorem d_X_serve_63 : decode mi_X_serve.2.1 63 = .ok (.aload_n 1, 1) := by decide +kernel
theorem d_X_serve_64 : decode mi_X_serve.2.1 64 = .ok (.invokevirtual 187, 3) := by decide +kernel
theorem d_X_serve_67 : decode mi_X_serve.2.1 67 = .ok (.ireturn, 1) := by decide +kernel
theorem d_X_serve_68 : decode mi_X_serve.2.1 68 = .ok (.aload_n 0, 1) := by decide +kernel
theorem d_X_serve_69 : decode mi_X_serve.2.1 69 = .ok (.aload_n 1, 1) := by decide +kernel
theorem d_X_serve_70 : decode mi_X_serve.2.1 70 = .ok (.invokevirtual 190, 3) := by decide +kernel
theorem d_X_serve_73 : decode mi_X_serve.2.1 73 = .ok (.ireturn, 1) := by decide +kernel
theorem d_X_serve_74 : decode mi_X_serve.2.1 74 = .ok (.aload_n 0, 1) := by decide +kernel
theorem d_X_serve_75 : decode mi_X_serve.2.1 75 = .ok (.aload_n 1, 1) := by decide +kernel
theorem d_X_serve_76 : decode mi_X_serve.2.1 76 = .ok (.invokevirtual 193, 3) := by decide +kernel
theorem d_X_serve_79 : decode mi_X_serve.2.1 79 = .ok (.ireturn, 1) := by decide +kernel
theorem d_X_serve_80 : decode mi_X_serve.2.1 80 = .ok (.aload_n 0, 1) := by decide +kernel
theorem d_X_serve_81 : decode mi_X_serve.2.1 81 = .ok (.aload_n 1, 1) := by decide +kernel
theorem d_X_serve_82 : decode mi_X_serve.2.1 82 = .ok (.invokevirtual 196, 3) := by decide +kernel
theorem d_X_serve_85 : decode mi_X_serve.2.1 85 = .ok (.ireturn, 1) := by decide +kernel
theorem d_X_serve_86 : decode mi_X_serve.2.1 86 = .ok (.aload_n 0, 1) := by decide +kernel
theorem d_X_serve_87 : decode mi_X_serve.2.1 87 = .ok (.aload_n 1, 1) := by decide +kernel
theorem d_X_serve_88 : decode mi_X_serve.2.1 88 = .ok (.invokevirtual 199, 3) := by decide +kernel
theorem d_X_serve_91 : decode mi_X_serve.2.1 91 = .ok (.ireturn, 1) := by decide +kernel
theorem d_X_serve_92 : decode mi_X_serve.2.1 92 = .ok (.iconst 2, 1) := by decide +kernel
theorem d_X_serve_93 : decode mi_X_serve.2.1 93 = .ok (.ireturn, 1) := by decide +kernel
theorem d_X_serveRead_0 : decode mi_X_serveRead.2.1 0 = .ok (.aload_n 1, 1) := by decide +kernel
theorem d_X_serveRead_1 : decode mi_X_serveRead.2.1 1 = .ok (.invokevirtual 202, 3) := by decide +kernel
theorem d_X_serveRead_4 : decode mi_X_serveRead.2.1 4 = .ok (.istore_n 2, 1) := by decide +kernel
theorem d_X_serveRead_5 : decode mi_X_serveRead.2.1 5 = .ok (.aload_n 1, 1) := by decide +kernel
theorem d_X_serveRead_6 : decode mi_X_serveRead.2.1 6 = .ok (.invokevirtual 205, 3) := by decide +kernel
theorem d_X_serveRead_9 : decode mi_X_serveRead.2.1 9 = .ok (.ifCond .ne 5, 3) := by decide +kernel
theorem d_X_serveRead_12 : decode mi_X_serveRead.2.1 12 = .ok (.iconst 1, 1) := by decide +kernel
theorem d_X_serveRead_13 : decode mi_X_serveRead.2.1 13 = .ok (.ireturn, 1) := by decide +kernel
theorem d_X_serveRead_14 : decode mi_X_serveRead.2.1 14 = .ok (.aload_n 0, 1) := by decide +kernel
theorem d_X_serveRead_15 : decode mi_X_serveRead.2.1 15 = .ok (.iload_n 2, 1) := by decide +kernel
theorem d_X_serveRead_16 : decode mi_X_serveRead.2.1 16 = .ok (.invokevirtual 209, 3) := by decide +kernel
theorem d_X_serveRead_19 : decode mi_X_serveRead.2.1 19 = .ok (.istore_n 3, 1) := by decide +kernel
theorem d_X_serveRead_20 : decode mi_X_serveRead.2.1 20 = .ok (.iload_n 3, 1) := by decide +kernel
theorem d_X_serveRead_21 : decode mi_X_serveRead.2.1 21 = .ok (.ifCond .ne 19, 3) := by decide +kernel
theorem d_X_serveRead_24 : decode mi_X_serveRead.2.1 24 = .ok (.aload_n 0, 1) := by decide +kernel
theorem d_X_serveRead_25 : decode mi_X_serveRead.2.1 25 = .ok (.getfield 40, 3) := by decide +kernel
theorem d_X_serveRead_28 : decode mi_X_serveRead.2.1 28 = .ok (.aload_n 0, 1) := by decide +kernel
theorem d_X_serveRead_29 : decode mi_X_serveRead.2.1 29 = .ok (.getfield 11, 3) := by decide +kernel
theorem d_X_serveRead_32 : decode mi_X_serveRead.2.1 32 = .ok (.iload_n 2, 1) := by decide +kernel
theorem d_X_serveRead_33 : decode mi_X_serveRead.2.1 33 = .ok (.aaload, 1) := by decide +kernel
theorem d_X_serveRead_34 : decode mi_X_serveRead.2.1 34 = .ok (.getfield 154, 3) := by decide +kernel
theorem d_X_serveRead_37 : decode mi_X_serveRead.2.1 37 = .ok (.invokevirtual 164, 3) := by decide +kernel
theorem d_X_serveRead_40 : decode mi_X_serveRead.2.1 40 = .ok (.iload_n 3, 1) := by decide +kernel
theorem d_X_serveRead_41 : decode mi_X_serveRead.2.1 41 = .ok (.ireturn, 1) := by decide +kernel
theorem d_X_checkVariable_0 : decode mi_X_checkVariable.2.1 0 = .ok (.aload_n 0, 1) := by decide +kernel
theorem d_X_checkVariable_1 : decode mi_X_checkVariable.2.1 1 = .ok (.iload_n 1, 1) := by decide +kernel
theorem d_X_checkVariable_2 : decode mi_X_checkVariable.2.1 2 = .ok (.invokevirtual 157, 3) := by decide +kernel
theorem d_X_checkVariable_5 : decode mi_X_checkVariable.2.1 5 = .ok (.ifCond .ne 5, 3) := by decide +kernel
theorem d_X_checkVariable_8 : decode mi_X_checkVariable.2.1 8 = .ok (.iconst 3, 1) := by decide +kernel
theorem d_X_checkVariable_9 : decode mi_X_checkVariable.2.1 9 = .ok (.ireturn, 1) := by decide +kernel
theorem d_X_checkVariable_10 : decode mi_X_checkVariable.2.1 10 = .ok (.aload_n 0, 1) := by decide +kernel
theorem d_X_checkVariable_11 : decode mi_X_checkVariable.2.1 11 = .ok (.iload_n 1, 1) := by decide +kernel
theorem d_X_checkVariable_12 : decode mi_X_checkVariable.2.1 12 = .ok (.invokevirtual 86, 3) := by decide +kernel
theorem d_X_checkVariable_15 : decode mi_X_checkVariable.2.1 15 = .ok (.ifCond .eq 7, 3) := by decide +kernel
theorem d_X_checkVariable_18 : decode mi_X_checkVariable.2.1 18 = .ok (.iconst 0, 1) := by decide +kernel
theorem d_X_checkVariable_19 : decode mi_X_checkVariable.2.1 19 = .ok (.goto 4, 3) := by decide +kernel
theorem d_X_checkVariable_22 : decode mi_X_checkVariable.2.1 22 = .ok (.iconst 4, 1) := by decide +kernel
theorem d_X_checkVariable_23 : decode mi_X_checkVariable.2.1 23 = .ok (.ireturn, 1) := by decide +kernel
theorem d_X_serveWrite_0 : decode mi_X_serveWrite.2.1 0 = .ok (.aload_n 1, 1) := by decide +kernel
theorem d_X_serveWrite_1 : decode mi_X_serveWrite.2.1 1 = .ok (.invokevirtual 202, 3) := by decide +kernel
theorem d_X_serveWrite_4 : decode mi_X_serveWrite.2.1 4 = .ok (.istore_n 2, 1) := by decide +kernel
theorem d_X_serveWrite_5 : decode mi_X_serveWrite.2.1 5 = .ok (.aload_n 0, 1) := by decide +kernel
theorem d_X_serveWrite_6 : decode mi_X_serveWrite.2.1 6 = .ok (.getfield 44, 3) := by decide +kernel
theorem d_X_serveWrite_9 : decode mi_X_serveWrite.2.1 9 = .ok (.invokevirtual 71, 3) := by decide +kernel
theorem d_X_serveWrite_12 : decode mi_X_serveWrite.2.1 12 = .ok (.aload_n 1, 1) := by decide +kernel
theorem d_X_serveWrite_13 : decode mi_X_serveWrite.2.1 13 = .ok (.aload_n 0, 1) := by decide +kernel
theorem d_X_serveWrite_14 : decode mi_X_serveWrite.2.1 14 = .ok (.getfield 44, 3) := by decide +kernel
theorem d_X_serveWrite_17 : decode mi_X_serveWrite.2.1 17 = .ok (.iconst 0, 1) := by decide +kernel
theorem d_X_serveWrite_18 : decode mi_X_serveWrite.2.1 18 = .ok (.invokevirtual 212, 3) := by decide +kernel
theorem d_X_serveWrite_21 : decode mi_X_serveWrite.2.1 21 = .ok (.aload_n 1, 1) := by decide +kernel
theorem d_X_serveWrite_22 : decode mi_X_serveWrite.2.1 22 = .ok (.invokevirtual 205, 3) := by decide +kernel
theorem d_X_serveWrite_25 : decode mi_X_serveWrite.2.1 25 = .ok (.ifCond .ne 5, 3) := by decide +kernel
theorem d_X_serveWrite_28 : decode mi_X_serveWrite.2.1 28 = .ok (.iconst 1, 1) := by decide +kernel
theorem d_X_serveWrite_29 : decode mi_X_serveWrite.2.1 29 = .ok (.ireturn, 1) := by decide +kernel
theorem d_X_serveWrite_30 : decode mi_X_serveWrite.2.1 30 = .ok (.aload_n 0, 1) := by decide +kernel
theorem d_X_serveWrite_31 : decode mi_X_serveWrite.2.1 31 = .ok (.iload_n 2, 1) := by decide +kernel
theorem d_X_serveWrite_32 : decode mi_X_serveWrite.2.1 32 = .ok (.invokevirtual 209, 3) := by decide +kernel
theorem d_X_serveWrite_35 : decode mi_X_serveWrite.2.1 35 = .ok (.istore_n 3, 1) := by decide +kernel
theorem d_X_serveWrite_36 : decode mi_X_serveWrite.2.1 36 = .ok (.iload_n 3, 1) := by decide +kernel
theorem d_X_serveWrite_37 : decode mi_X_serveWrite.2.1 37 = .ok (.ifCond .eq 5, 3) := by decide +kernel
theorem d_X_serveWrite_40 : decode mi_X_serveWrite.2.1 40 = .ok (.iload_n 3, 1) := by decide +kernel
theorem d_X_serveWrite_41 : decode mi_X_serveWrite.2.1 41 = .ok (.ireturn, 1) := by decide +kernel
theorem d_X_serveWrite_42 : decode mi_X_serveWrite.2.1 42 = .ok (.aload_n 0, 1) := by decide +kernel
theorem d_X_serveWrite_43 : decode mi_X_serveWrite.2.1 43 = .ok (.getfield 11, 3) := by decide +kernel
theorem d_X_serveWrite_46 : decode mi_X_serveWrite.2.1 46 = .ok (.iload_n 2, 1) := by decide +kernel
theorem d_X_serveWrite_47 : decode mi_X_serveWrite.2.1 47 = .ok (.aaload, 1) := by decide +kernel
theorem d_X_serveWrite_48 : decode mi_X_serveWrite.2.1 48 = .ok (.getfield 89, 3) := by decide +kernel
theorem d_X_serveWrite_51 : decode mi_X_serveWrite.2.1 51 = .ok (.istore 4, 2) := by decide +kernel
theorem d_X_serveWrite_53 : decode mi_X_serveWrite.2.1 53 = .ok (.iload 4, 2) := by decide +kernel
theorem d_X_serveWrite_55 : decode mi_X_serveWrite.2.1 55 = .ok (.ifCond .eq 18, 3) := by decide +kernel
theorem d_X_serveWrite_58 : decode mi_X_serveWrite.2.1 58 = .ok (.iload 4, 2) := by decide +kernel
theorem d_X_serveWrite_60 : decode mi_X_serveWrite.2.1 60 = .ok (.aload_n 0, 1) := by decide +kernel
theorem d_X_serveWrite_61 : decode mi_X_serveWrite.2.1 61 = .ok (.getfield 44, 3) := by decide +kernel
theorem d_X_serveWrite_64 : decode mi_X_serveWrite.2.1 64 = .ok (.iconst 0, 1) := by decide +kernel
theorem d_X_serveWrite_65 : decode mi_X_serveWrite.2.1 65 = .ok (.invokevirtual 135, 3) := by decide +kernel
theorem d_X_serveWrite_68 : decode mi_X_serveWrite.2.1 68 = .ok (.if_icmp .eq 5, 3) := by decide +kernel
theorem d_X_serveWrite_71 : decode mi_X_serveWrite.2.1 71 = .ok (.iconst 5, 1) := by decide +kernel
theorem d_X_serveWrite_72 : decode mi_X_serveWrite.2.1 72 = .ok (.ireturn, 1) := by decide +kernel
theorem d_X_serveWrite_73 : decode mi_X_serveWrite.2.1 73 = .ok (.aload_n 0, 1) := by decide +kernel
theorem d_X_serveWrite_74 : decode mi_X_serveWrite.2.1 74 = .ok (.iload_n 2, 1) := by decide +kernel
theorem d_X_serveWrite_75 : decode mi_X_serveWrite.2.1 75 = .ok (.invokevirtual 99, 3) := by decide +kernel
theorem d_X_serveWrite_78 : decode mi_X_serveWrite.2.1 78 = .ok (.pop, 1) := by decide +kernel
theorem d_X_serveWrite_79 : decode mi_X_serveWrite.2.1 79 = .ok (.iconst 0, 1) := by decide +kernel
theorem d_X_serveWrite_80 : decode mi_X_serveWrite.2.1 80 = .ok (.ireturn, 1) := by decide +kernel
theorem d_X_serveBrowse_0 : decode mi_X_serveBrowse.2.1 0 = .ok (.aload_n 1, 1) := by decide +kernel
theorem d_X_serveBrowse_1 : decode mi_X_serveBrowse.2.1 1 = .ok (.invokevirtual 202, 3) := by decide +kernel
theorem d_X_serveBrowse_4 : decode mi_X_serveBrowse.2.1 4 = .ok (.istore_n 2, 1) := by decide +kernel
theorem d_X_serveBrowse_5 : decode mi_X_serveBrowse.2.1 5 = .ok (.aload_n 1, 1) := by decide +kernel
theorem d_X_serveBrowse_6 : decode mi_X_serveBrowse.2.1 6 = .ok (.invokevirtual 181, 3) := by decide +kernel
theorem d_X_serveBrowse_9 : decode mi_X_serveBrowse.2.1 9 = .ok (.istore_n 3, 1) := by decide +kernel
theorem d_X_serveBrowse_10 : decode mi_X_serveBrowse.2.1 10 = .ok (.aload_n 1, 1) := by decide +kernel
theorem d_X_serveBrowse_11 : decode mi_X_serveBrowse.2.1 11 = .ok (.invokevirtual 205, 3) := by decide +kernel
theorem d_X_serveBrowse_14 : decode mi_X_serveBrowse.2.1 14 = .ok (.ifCond .eq 8, 3) := by decide +kernel
theorem d_X_serveBrowse_17 : decode mi_X_serveBrowse.2.1 17 = .ok (.iload_n 3, 1) := by decide +kernel
theorem d_X_serveBrowse_18 : decode mi_X_serveBrowse.2.1 18 = .ok (.iconst 1, 1) := by decide +kernel
theorem d_X_serveBrowse_19 : decode mi_X_serveBrowse.2.1 19 = .ok (.if_icmp .le 5, 3) := by decide +kernel
theorem d_X_serveBrowse_22 : decode mi_X_serveBrowse.2.1 22 = .ok (.iconst 1, 1) := by decide +kernel
theorem d_X_serveBrowse_23 : decode mi_X_serveBrowse.2.1 23 = .ok (.ireturn, 1) := by decide +kernel
theorem d_X_serveBrowse_24 : decode mi_X_serveBrowse.2.1 24 = .ok (.aload_n 0, 1) := by decide +kernel
theorem d_X_serveBrowse_25 : decode mi_X_serveBrowse.2.1 25 = .ok (.iload_n 2, 1) := by decide +kernel
theorem d_X_serveBrowse_26 : decode mi_X_serveBrowse.2.1 26 = .ok (.invokevirtual 157, 3) := by decide +kernel
theorem d_X_serveBrowse_29 : decode mi_X_serveBrowse.2.1 29 = .ok (.ifCond .ne 5, 3) := by decide +kernel
theorem d_X_serveBrowse_32 : decode mi_X_serveBrowse.2.1 32 = .ok (.iconst 3, 1) := by decide +kernel
theorem d_X_serveBrowse_33 : decode mi_X_serveBrowse.2.1 33 = .ok (.ireturn, 1) := by decide +kernel
theorem d_X_serveBrowse_34 : decode mi_X_serveBrowse.2.1 34 = .ok (.aload_n 0, 1) := by decide +kernel
theorem d_X_serveBrowse_35 : decode mi_X_serveBrowse.2.1 35 = .ok (.getfield 40, 3) := by decide +kernel
theorem d_X_serveBrowse_38 : decode mi_X_serveBrowse.2.1 38 = .ok (.iconst 0, 1) := by decide +kernel
theorem d_X_serveBrowse_39 : decode mi_X_serveBrowse.2.1 39 = .ok (.invokevirtual 92, 3) := by decide +kernel
theorem d_X_serveBrowse_42 : decode mi_X_serveBrowse.2.1 42 = .ok (.iload_n 3, 1) := by decide +kernel
theorem d_X_serveBrowse_43 : decode mi_X_serveBrowse.2.1 43 = .ok (.iconst 1, 1) := by decide +kernel
theorem d_X_serveBrowse_44 : decode mi_X_serveBrowse.2.1 44 = .ok (.if_icmp .ne 11, 3) := by decide +kernel
theorem d_X_serveBrowse_47 : decode mi_X_serveBrowse.2.1 47 = .ok (.aload_n 0, 1) := by decide +kernel
theorem d_X_serveBrowse_48 : decode mi_X_serveBrowse.2.1 48 = .ok (.iload_n 2, 1) := by decide +kernel
theorem d_X_serveBrowse_49 : decode mi_X_serveBrowse.2.1 49 = .ok (.invokevirtual 216, 3) := by decide +kernel
theorem d_X_serveBrowse_52 : decode mi_X_serveBrowse.2.1 52 = .ok (.goto 8, 3) := by decide +kernel
theorem d_X_serveBrowse_55 : decode mi_X_serveBrowse.2.1 55 = .ok (.aload_n 0, 1) := by decide +kernel
theorem d_X_serveBrowse_56 : decode mi_X_serveBrowse.2.1 56 = .ok (.iload_n 2, 1) := by decide +kernel
theorem d_X_serveBrowse_57 : decode mi_X_serveBrowse.2.1 57 = .ok (.invokevirtual 219, 3) := by decide +kernel
theorem d_X_serveBrowse_60 : decode mi_X_serveBrowse.2.1 60 = .ok (.iconst 0, 1) := by decide +kernel
theorem d_X_serveBrowse_61 : decode mi_X_serveBrowse.2.1 61 = .ok (.ireturn, 1) := by decide +kernel
theorem d_X_replyParent_0 : decode mi_X_replyParent.2.1 0 = .ok (.aload_n 0, 1) := by decide +kernel
theorem d_X_replyParent_1 : decode mi_X_replyParent.2.1 1 = .ok (.getfield 11, 3) := by decide +kernel
theorem d_X_replyParent_4 : decode mi_X_replyParent.2.1 4 = .ok (.iload_n 1, 1) := by decide +kernel
theorem d_X_replyParent_5 : decode mi_X_replyParent.2.1 5 = .ok (.aaload, 1) := by decide +kernel
theorem d_X_replyParent_6 : decode mi_X_replyParent.2.1 6 = .ok (.getfield 222, 3) := by decide +kernel
theorem d_X_replyParent_9 : decode mi_X_replyParent.2.1 9 = .ok (.iconst (-1), 1) := by decide +kernel
theorem d_X_replyParent_10 : decode mi_X_replyParent.2.1 10 = .ok (.if_icmp .eq 16, 3) := by decide +kernel
theorem d_X_replyParent_13 : decode mi_X_replyParent.2.1 13 = .ok (.aload_n 0, 1) := by decide +kernel
theorem d_X_replyParent_14 : decode mi_X_replyParent.2.1 14 = .ok (.aload_n 0, 1) := by decide +kernel
theorem d_X_replyParent_15 : decode mi_X_replyParent.2.1 15 = .ok (.getfield 11, 3) := by decide +kernel
theorem d_X_replyParent_18 : decode mi_X_replyParent.2.1 18 = .ok (.iload_n 1, 1) := by decide +kernel
theorem d_X_replyParent_19 : decode mi_X_replyParent.2.1 19 = .ok (.aaload, 1) := by decide +kernel
theorem d_X_replyParent_20 : decode mi_X_replyParent.2.1 20 = .ok (.getfield 222, 3) := by decide +kernel
theorem d_X_replyParent_23 : decode mi_X_replyParent.2.1 23 = .ok (.invokevirtual 225, 3) := by decide +kernel
theorem d_X_replyParent_26 : decode mi_X_replyParent.2.1 26 = .ok (.return_, 1) := by decide +kernel
theorem d_X_replyName_0 : decode mi_X_replyName.2.1 0 = .ok (.aload_n 0, 1) := by decide +kernel
theorem d_X_replyName_1 : decode mi_X_replyName.2.1 1 = .ok (.getfield 40, 3) := by decide +kernel
theorem d_X_replyName_4 : decode mi_X_replyName.2.1 4 = .ok (.iconst 1, 1) := by decide +kernel
theorem d_X_replyName_5 : decode mi_X_replyName.2.1 5 = .ok (.aload_n 0, 1) := by decide +kernel
theorem d_X_replyName_6 : decode mi_X_replyName.2.1 6 = .ok (.getfield 40, 3) := by decide +kernel
theorem d_X_replyName_9 : decode mi_X_replyName.2.1 9 = .ok (.iconst 1, 1) := by decide +kernel
theorem d_X_replyName_10 : decode mi_X_replyName.2.1 10 = .ok (.invokevirtual 135, 3) := by decide +kernel
theorem d_X_replyName_13 : decode mi_X_replyName.2.1 13 = .ok (.iconst 1, 1) := by decide +kernel
theorem d_X_replyName_14 : decode mi_X_replyName.2.1 14 = .ok (.iadd, 1) := by decide +kernel
theorem d_X_replyName_15 : decode mi_X_replyName.2.1 15 = .ok (.invokevirtual 121, 3) := by decide +kernel
theorem d_X_replyName_18 : decode mi_X_replyName.2.1 18 = .ok (.aload_n 0, 1) := by decide +kernel
theorem d_X_replyName_19 : decode mi_X_replyName.2.1 19 = .ok (.getfield 40, 3) := by decide +kernel
theorem d_X_replyName_22 : decode mi_X_replyName.2.1 22 = .ok (.iconst 0, 1) := by decide +kernel
theorem d_X_replyName_23 : decode mi_X_replyName.2.1 23 = .ok (.invokevirtual 92, 3) := by decide +kernel
theorem d_X_replyName_26 : decode mi_X_replyName.2.1 26 = .ok (.aload_n 0, 1) := by decide +kernel
theorem d_X_replyName_27 : decode mi_X_replyName.2.1 27 = .ok (.getfield 40, 3) := by decide +kernel
theorem d_X_replyName_30 : decode mi_X_replyName.2.1 30 = .ok (.iload_n 1, 1) := by decide +kernel
theorem d_X_replyName_31 : decode mi_X_replyName.2.1 31 = .ok (.invokevirtual 92, 3) := by decide +kernel
theorem d_X_replyName_34 : decode mi_X_replyName.2.1 34 = .ok (.return_, 1) := by decide +kernel
theorem d_X_replyChildren_0 : decode mi_X_replyChildren.2.1 0 = .ok (.iconst 0, 1) := by decide +kernel
theorem d_X_replyChildren_1 : decode mi_X_replyChildren.2.1 1 = .ok (.istore_n 2, 1) := by decide +kernel
theorem d_X_replyChildren_2 : decode mi_X_replyChildren.2.1 2 = .ok (.iload_n 2, 1) := by decide +kernel
theorem d_X_replyChildren_3 : decode mi_X_replyChildren.2.1 3 = .ok (.aload_n 0, 1) := by decide +kernel
theorem d_X_replyChildren_4 : decode mi_X_replyChildren.2.1 4 = .ok (.getfield 57, 3) := by decide +kernel
theorem d_X_replyChildren_7 : decode mi_X_replyChildren.2.1 7 = .ok (.if_icmp .ge 27, 3) := by decide +kernel
theorem d_X_replyChildren_10 : decode mi_X_replyChildren.2.1 10 = .ok (.aload_n 0, 1) := by decide +kernel
theorem d_X_replyChildren_11 : decode mi_X_replyChildren.2.1 11 = .ok (.getfield 11, 3) := by decide +kernel
theorem d_X_replyChildren_14 : decode mi_X_replyChildren.2.1 14 = .ok (.iload_n 2, 1) := by decide +kernel
theorem d_X_replyChildren_15 : decode mi_X_replyChildren.2.1 15 = .ok (.aaload, 1) := by decide +kernel
theorem d_X_replyChildren_16 : decode mi_X_replyChildren.2.1 16 = .ok (.getfield 222, 3) := by decide +kernel
theorem d_X_replyChildren_19 : decode mi_X_replyChildren.2.1 19 = .ok (.iload_n 1, 1) := by decide +kernel
theorem d_X_replyChildren_20 : decode mi_X_replyChildren.2.1 20 = .ok (.if_icmp .ne 8, 3) := by decide +kernel
theorem d_X_replyChildren_23 : decode mi_X_replyChildren.2.1 23 = .ok (.aload_n 0, 1) := by decide +kernel
theorem d_X_replyChildren_24 : decode mi_X_replyChildren.2.1 24 = .ok (.iload_n 2, 1) := by decide +kernel
theorem d_X_replyChildren_25 : decode mi_X_replyChildren.2.1 25 = .ok (.invokevirtual 225, 3) := by decide +kernel
theorem d_X_replyChildren_28 : decode mi_X_replyChildren.2.1 28 = .ok (.iinc 2 1, 3) := by decide +kernel
theorem d_X_replyChildren_31 : decode mi_X_replyChildren.2.1 31 = .ok (.goto (-29), 3) := by decide +kernel
theorem d_X_replyChildren_34 : decode mi_X_replyChildren.2.1 34 = .ok (.return_, 1) := by decide +kernel
theorem d_X_serveWatch_0 : decode mi_X_serveWatch.2.1 0 = .ok (.aload_n 1, 1) := by decide +kernel
theorem d_X_serveWatch_1 : decode mi_X_serveWatch.2.1 1 = .ok (.invokevirtual 202, 3) := by decide +kernel
theorem d_X_serveWatch_4 : decode mi_X_serveWatch.2.1 4 = .ok (.istore_n 2, 1) := by decide +kernel
theorem d_X_serveWatch_5 : decode mi_X_serveWatch.2.1 5 = .ok (.aload_n 1, 1) := by decide +kernel
theorem d_X_serveWatch_6 : decode mi_X_serveWatch.2.1 6 = .ok (.invokevirtual 181, 3) := by decide +kernel
theorem d_X_serveWatch_9 : decode mi_X_serveWatch.2.1 9 = .ok (.istore_n 3, 1) := by decide +kernel
theorem d_X_serveWatch_10 : decode mi_X_serveWatch.2.1 10 = .ok (.aload_n 1, 1) := by decide +kernel
theorem d_X_serveWatch_11 : decode mi_X_serveWatch.2.1 11 = .ok (.invokevirtual 181, 3) := by decide +kernel
theorem d_X_serveWatch_14 : decode mi_X_serveWatch.2.1 14 = .ok (.istore 4, 2) := by decide +kernel
theorem d_X_serveWatch_16 : decode mi_X_serveWatch.2.1 16 = .ok (.aload_n 1, 1) := by decide +kernel
theorem d_X_serveWatch_17 : decode mi_X_serveWatch.2.1 17 = .ok (.invokevirtual 205, 3) := by decide +kernel
theorem d_X_serveWatch_20 : decode mi_X_serveWatch.2.1 20 = .ok (.ifCond .ne 5, 3) := by decide +kernel
theorem d_X_serveWatch_23 : decode mi_X_serveWatch.2.1 23 = .ok (.iconst 1, 1) := by decide +kernel
theorem d_X_serveWatch_24 : decode mi_X_serveWatch.2.1 24 = .ok (.ireturn, 1) := by decide +kernel
theorem d_X_serveWatch_25 : decode mi_X_serveWatch.2.1 25 = .ok (.aload_n 0, 1) := by decide +kernel
theorem d_X_serveWatch_26 : decode mi_X_serveWatch.2.1 26 = .ok (.iload_n 2, 1) := by decide +kernel
theorem d_X_serveWatch_27 : decode mi_X_serveWatch.2.1 27 = .ok (.invokevirtual 209, 3) := by decide +kernel
theorem d_X_serveWatch_30 : decode mi_X_serveWatch.2.1 30 = .ok (.istore 5, 2) := by decide +kernel
theorem d_X_serveWatch_32 : decode mi_X_serveWatch.2.1 32 = .ok (.iload 5, 2) := by decide +kernel
theorem d_X_serveWatch_34 : decode mi_X_serveWatch.2.1 34 = .ok (.ifCond .eq 6, 3) := by decide +kernel
theorem d_X_serveWatch_37 : decode mi_X_serveWatch.2.1 37 = .ok (.iload 5, 2) := by decide +kernel
theorem d_X_serveWatch_39 : decode mi_X_serveWatch.2.1 39 = .ok (.ireturn, 1) := by decide +kernel
theorem d_X_serveWatch_40 : decode mi_X_serveWatch.2.1 40 = .ok (.aload_n 0, 1) := by decide +kernel
theorem d_X_serveWatch_41 : decode mi_X_serveWatch.2.1 41 = .ok (.getfield 67, 3) := by decide +kernel
theorem d_X_serveWatch_44 : decode mi_X_serveWatch.2.1 44 = .ok (.bipush 6, 2) := by decide +kernel
theorem d_X_serveWatch_46 : decode mi_X_serveWatch.2.1 46 = .ok (.if_icmp .ne 6, 3) := by decide +kernel
theorem d_X_serveWatch_49 : decode mi_X_serveWatch.2.1 49 = .ok (.bipush 6, 2) := by decide +kernel
theorem d_X_serveWatch_51 : decode mi_X_serveWatch.2.1 51 = .ok (.ireturn, 1) := by decide +kernel
theorem d_X_serveWatch_52 : decode mi_X_serveWatch.2.1 52 = .ok (.aload_n 0, 1) := by decide +kernel
theorem d_X_serveWatch_53 : decode mi_X_serveWatch.2.1 53 = .ok (.getfield 17, 3) := by decide +kernel
theorem d_X_serveWatch_56 : decode mi_X_serveWatch.2.1 56 = .ok (.aload_n 0, 1) := by decide +kernel
theorem d_X_serveWatch_57 : decode mi_X_serveWatch.2.1 57 = .ok (.getfield 67, 3) := by decide +kernel
theorem d_X_serveWatch_60 : decode mi_X_serveWatch.2.1 60 = .ok (.aaload, 1) := by decide +kernel
theorem d_X_serveWatch_61 : decode mi_X_serveWatch.2.1 61 = .ok (.iload_n 2, 1) := by decide +kernel
theorem d_X_serveWatch_62 : decode mi_X_serveWatch.2.1 62 = .ok (.iconst 1, 1) := by decide +kernel
theorem d_X_serveWatch_63 : decode mi_X_serveWatch.2.1 63 = .ok (.iload_n 3, 1) := by decide +kernel
theorem d_X_serveWatch_64 : decode mi_X_serveWatch.2.1 64 = .ok (.iconst 4, 1) := by decide +kernel
theorem d_X_serveWatch_65 : decode mi_X_serveWatch.2.1 65 = .ok (.invokestatic 228, 3) := by decide +kernel
theorem d_X_serveWatch_68 : decode mi_X_serveWatch.2.1 68 = .ok (.invokestatic 233, 3) := by decide +kernel
theorem d_X_serveWatch_71 : decode mi_X_serveWatch.2.1 71 = .ok (.iload 4, 2) := by decide +kernel
theorem d_X_serveWatch_73 : decode mi_X_serveWatch.2.1 73 = .ok (.ifCond .eq 7, 3) := by decide +kernel
theorem d_X_serveWatch_76 : decode mi_X_serveWatch.2.1 76 = .ok (.iconst 1, 1) := by decide +kernel
theorem d_X_serveWatch_77 : decode mi_X_serveWatch.2.1 77 = .ok (.goto 4, 3) := by decide +kernel
theorem d_X_serveWatch_80 : decode mi_X_serveWatch.2.1 80 = .ok (.iconst 0, 1) := by decide +kernel
theorem d_X_serveWatch_81 : decode mi_X_serveWatch.2.1 81 = .ok (.invokevirtual 236, 3) := by decide +kernel
theorem d_X_serveWatch_84 : decode mi_X_serveWatch.2.1 84 = .ok (.aload_n 0, 1) := by decide +kernel
theorem d_X_serveWatch_85 : decode mi_X_serveWatch.2.1 85 = .ok (.getfield 17, 3) := by decide +kernel
theorem d_X_serveWatch_88 : decode mi_X_serveWatch.2.1 88 = .ok (.aload_n 0, 1) := by decide +kernel
theorem d_X_serveWatch_89 : decode mi_X_serveWatch.2.1 89 = .ok (.getfield 67, 3) := by decide +kernel
theorem d_X_serveWatch_92 : decode mi_X_serveWatch.2.1 92 = .ok (.aaload, 1) := by decide +kernel
theorem d_X_serveWatch_93 : decode mi_X_serveWatch.2.1 93 = .ok (.aload_n 0, 1) := by decide +kernel
theorem d_X_serveWatch_94 : decode mi_X_serveWatch.2.1 94 = .ok (.getfield 11, 3) := by decide +kernel
theorem d_X_serveWatch_97 : decode mi_X_serveWatch.2.1 97 = .ok (.iload_n 2, 1) := by decide +kernel
theorem d_X_serveWatch_98 : decode mi_X_serveWatch.2.1 98 = .ok (.aaload, 1) := by decide +kernel
theorem d_X_serveWatch_99 : decode mi_X_serveWatch.2.1 99 = .ok (.getfield 154, 3) := by decide +kernel
theorem d_X_serveWatch_102 : decode mi_X_serveWatch.2.1 102 = .ok (.invokevirtual 171, 3) := by decide +kernel
theorem d_X_serveWatch_105 : decode mi_X_serveWatch.2.1 105 = .ok (.aload_n 0, 1) := by decide +kernel
theorem d_X_serveWatch_106 : decode mi_X_serveWatch.2.1 106 = .ok (.getfield 40, 3) := by decide +kernel
theorem d_X_serveWatch_109 : decode mi_X_serveWatch.2.1 109 = .ok (.aload_n 0, 1) := by decide +kernel
theorem d_X_serveWatch_110 : decode mi_X_serveWatch.2.1 110 = .ok (.getfield 67, 3) := by decide +kernel
theorem d_X_serveWatch_113 : decode mi_X_serveWatch.2.1 113 = .ok (.invokevirtual 92, 3) := by decide +kernel
theorem d_X_serveWatch_116 : decode mi_X_serveWatch.2.1 116 = .ok (.aload_n 0, 1) := by decide +kernel
theorem d_X_serveWatch_117 : decode mi_X_serveWatch.2.1 117 = .ok (.dup, 1) := by decide +kernel
theorem d_X_serveWatch_118 : decode mi_X_serveWatch.2.1 118 = .ok (.getfield 67, 3) := by decide +kernel
theorem d_X_serveWatch_121 : decode mi_X_serveWatch.2.1 121 = .ok (.iconst 1, 1) := by decide +kernel
theorem d_X_serveWatch_122 : decode mi_X_serveWatch.2.1 122 = .ok (.iadd, 1) := by decide +kernel
theorem d_X_serveWatch_123 : decode mi_X_serveWatch.2.1 123 = .ok (.putfield 67, 3) := by decide +kernel
theorem d_X_serveWatch_126 : decode mi_X_serveWatch.2.1 126 = .ok (.iconst 0, 1) := by decide +kernel
theorem d_X_serveWatch_127 : decode mi_X_serveWatch.2.1 127 = .ok (.ireturn, 1) := by decide +kernel
theorem d_X_servePublish_0 : decode mi_X_servePublish.2.1 0 = .ok (.aload_n 1, 1) := by decide +kernel
theorem d_X_servePublish_1 : decode mi_X_servePublish.2.1 1 = .ok (.invokevirtual 181, 3) := by decide +kernel
theorem d_X_servePublish_4 : decode mi_X_servePublish.2.1 4 = .ok (.istore_n 2, 1) := by decide +kernel
theorem d_X_servePublish_5 : decode mi_X_servePublish.2.1 5 = .ok (.iload_n 2, 1) := by decide +kernel
theorem d_X_servePublish_6 : decode mi_X_servePublish.2.1 6 = .ok (.iconst 4, 1) := by decide +kernel
theorem d_X_servePublish_7 : decode mi_X_servePublish.2.1 7 = .ok (.if_icmp .le 5, 3) := by decide +kernel
theorem d_X_servePublish_10 : decode mi_X_servePublish.2.1 10 = .ok (.iconst 1, 1) := by decide +kernel
theorem d_X_servePublish_11 : decode mi_X_servePublish.2.1 11 = .ok (.ireturn, 1) := by decide +kernel
theorem d_X_servePublish_12 : decode mi_X_servePublish.2.1 12 = .ok (.iconst 0, 1) := by decide +kernel
theorem d_X_servePublish_13 : decode mi_X_servePublish.2.1 13 = .ok (.istore_n 3, 1) := by decide +kernel
theorem d_X_servePublish_14 : decode mi_X_servePublish.2.1 14 = .ok (.iload_n 3, 1) := by decide +kernel
theorem d_X_servePublish_15 : decode mi_X_servePublish.2.1 15 = .ok (.iload_n 2, 1) := by decide +kernel
theorem d_X_servePublish_16 : decode mi_X_servePublish.2.1 16 = .ok (.if_icmp .ge 19, 3) := by decide +kernel
theorem d_X_servePublish_19 : decode mi_X_servePublish.2.1 19 = .ok (.aload_n 0, 1) := by decide +kernel
theorem d_X_servePublish_20 : decode mi_X_servePublish.2.1 20 = .ok (.getfield 47, 3) := by decide +kernel
theorem d_X_servePublish_23 : decode mi_X_servePublish.2.1 23 = .ok (.iload_n 3, 1) := by decide +kernel
theorem d_X_servePublish_24 : decode mi_X_servePublish.2.1 24 = .ok (.aload_n 1, 1) := by decide +kernel
theorem d_X_servePublish_25 : decode mi_X_servePublish.2.1 25 = .ok (.invokevirtual 240, 3) := by decide +kernel
theorem d_X_servePublish_28 : decode mi_X_servePublish.2.1 28 = .ok (.iastore, 1) := by decide +kernel
theorem d_X_servePublish_29 : decode mi_X_servePublish.2.1 29 = .ok (.iinc 3 1, 3) := by decide +kernel
theorem d_X_servePublish_32 : decode mi_X_servePublish.2.1 32 = .ok (.goto (-18), 3) := by decide +kernel
theorem d_X_servePublish_35 : decode mi_X_servePublish.2.1 35 = .ok (.aload_n 1, 1) := by decide +kernel
theorem d_X_servePublish_36 : decode mi_X_servePublish.2.1 36 = .ok (.invokevirtual 205, 3) := by decide +kernel
theorem d_X_servePublish_39 : decode mi_X_servePublish.2.1 39 = .ok (.ifCond .ne 5, 3) := by decide +kernel
theorem d_X_servePublish_42 : decode mi_X_servePublish.2.1 42 = .ok (.iconst 1, 1) := by decide +kernel
theorem d_X_servePublish_43 : decode mi_X_servePublish.2.1 43 = .ok (.ireturn, 1) := by decide +kernel
theorem d_X_servePublish_44 : decode mi_X_servePublish.2.1 44 = .ok (.iconst 0, 1) := by decide +kernel
theorem d_X_servePublish_45 : decode mi_X_servePublish.2.1 45 = .ok (.istore_n 3, 1) := by decide +kernel
theorem d_X_servePublish_46 : decode mi_X_servePublish.2.1 46 = .ok (.iload_n 3, 1) := by decide +kernel
theorem d_X_servePublish_47 : decode mi_X_servePublish.2.1 47 = .ok (.iload_n 2, 1) := by decide +kernel
theorem d_X_servePublish_48 : decode mi_X_servePublish.2.1 48 = .ok (.if_icmp .ge 22, 3) := by decide +kernel
theorem d_X_servePublish_51 : decode mi_X_servePublish.2.1 51 = .ok (.aload_n 0, 1) := by decide +kernel
theorem d_X_servePublish_52 : decode mi_X_servePublish.2.1 52 = .ok (.getfield 24, 3) := by decide +kernel
theorem d_X_servePublish_55 : decode mi_X_servePublish.2.1 55 = .ok (.aload_n 0, 1) := by decide +kernel
theorem d_X_servePublish_56 : decode mi_X_servePublish.2.1 56 = .ok (.getfield 47, 3) := by decide +kernel
theorem d_X_servePublish_59 : decode mi_X_servePublish.2.1 59 = .ok (.iload_n 3, 1) := by decide +kernel
theorem d_X_servePublish_60 : decode mi_X_servePublish.2.1 60 = .ok (.iaload, 1) := by decide +kernel
theorem d_X_servePublish_61 : decode mi_X_servePublish.2.1 61 = .ok (.invokevirtual 243, 3) := by decide +kernel
theorem d_X_servePublish_64 : decode mi_X_servePublish.2.1 64 = .ok (.iinc 3 1, 3) := by decide +kernel
theorem d_X_servePublish_67 : decode mi_X_servePublish.2.1 67 = .ok (.goto (-21), 3) := by decide +kernel
theorem d_X_servePublish_70 : decode mi_X_servePublish.2.1 70 = .ok (.aload_n 0, 1) := by decide +kernel
theorem d_X_servePublish_71 : decode mi_X_servePublish.2.1 71 = .ok (.invokevirtual 246, 3) := by decide +kernel
theorem d_X_servePublish_74 : decode mi_X_servePublish.2.1 74 = .ok (.iconst 3, 1) := by decide +kernel
theorem d_X_servePublish_75 : decode mi_X_servePublish.2.1 75 = .ok (.invokestatic 228, 3) := by decide +kernel
theorem d_X_servePublish_78 : decode mi_X_servePublish.2.1 78 = .ok (.istore_n 3, 1) := by decide +kernel
theorem d_X_servePublish_79 : decode mi_X_servePublish.2.1 79 = .ok (.iload_n 3, 1) := by decide +kernel
theorem d_X_servePublish_80 : decode mi_X_servePublish.2.1 80 = .ok (.ifCond .ne 6, 3) := by decide +kernel
theorem d_X_servePublish_83 : decode mi_X_servePublish.2.1 83 = .ok (.bipush 7, 2) := by decide +kernel
theorem d_X_servePublish_85 : decode mi_X_servePublish.2.1 85 = .ok (.ireturn, 1) := by decide +kernel
theorem d_X_servePublish_86 : decode mi_X_servePublish.2.1 86 = .ok (.aload_n 0, 1) := by decide +kernel
theorem d_X_servePublish_87 : decode mi_X_servePublish.2.1 87 = .ok (.getfield 24, 3) := by decide +kernel
theorem d_X_servePublish_90 : decode mi_X_servePublish.2.1 90 = .ok (.invokevirtual 249, 3) := by decide +kernel
theorem d_X_servePublish_93 : decode mi_X_servePublish.2.1 93 = .ok (.getfield 253, 3) := by decide +kernel
theorem d_X_servePublish_96 : decode mi_X_servePublish.2.1 96 = .ok (.astore 4, 2) := by decide +kernel
theorem d_X_servePublish_98 : decode mi_X_servePublish.2.1 98 = .ok (.aload 4, 2) := by decide +kernel
theorem d_X_servePublish_100 : decode mi_X_servePublish.2.1 100 = .ok (.iload_n 3, 1) := by decide +kernel
theorem d_X_servePublish_101 : decode mi_X_servePublish.2.1 101 = .ok (.invokevirtual 92, 3) := by decide +kernel
theorem d_X_servePublish_104 : decode mi_X_servePublish.2.1 104 = .ok (.aload_n 0, 1) := by decide +kernel
theorem d_X_servePublish_105 : decode mi_X_servePublish.2.1 105 = .ok (.aload 4, 2) := by decide +kernel
theorem d_X_servePublish_107 : decode mi_X_servePublish.2.1 107 = .ok (.iload_n 3, 1) := by decide +kernel
theorem d_X_servePublish_108 : decode mi_X_servePublish.2.1 108 = .ok (.invokevirtual 254, 3) := by decide +kernel
theorem d_X_servePublish_111 : decode mi_X_servePublish.2.1 111 = .ok (.aload_n 0, 1) := by decide +kernel
theorem d_X_servePublish_112 : decode mi_X_servePublish.2.1 112 = .ok (.getfield 40, 3) := by decide +kernel
theorem d_X_servePublish_115 : decode mi_X_servePublish.2.1 115 = .ok (.aload 4, 2) := by decide +kernel
theorem d_X_servePublish_117 : decode mi_X_servePublish.2.1 117 = .ok (.invokevirtual 164, 3) := by decide +kernel
theorem d_X_servePublish_120 : decode mi_X_servePublish.2.1 120 = .ok (.iconst 0, 1) := by decide +kernel
theorem d_X_servePublish_121 : decode mi_X_servePublish.2.1 121 = .ok (.ireturn, 1) := by decide +kernel
theorem d_X_countNotices_0 : decode mi_X_countNotices.2.1 0 = .ok (.iconst 0, 1) := by decide +kernel
theorem d_X_countNotices_1 : decode mi_X_countNotices.2.1 1 = .ok (.istore_n 1, 1) := by decide +kernel
theorem d_X_countNotices_2 : decode mi_X_countNotices.2.1 2 = .ok (.iconst 0, 1) := by decide +kernel
theorem d_X_countNotices_3 : decode mi_X_countNotices.2.1 3 = .ok (.istore_n 2, 1) := by decide +kernel
theorem d_X_countNotices_4 : decode mi_X_countNotices.2.1 4 = .ok (.iload_n 2, 1) := by decide +kernel
theorem d_X_countNotices_5 : decode mi_X_countNotices.2.1 5 = .ok (.aload_n 0, 1) := by decide +kernel
theorem d_X_countNotices_6 : decode mi_X_countNotices.2.1 6 = .ok (.getfield 67, 3) := by decide +kernel
theorem d_X_countNotices_9 : decode mi_X_countNotices.2.1 9 = .ok (.if_icmp .ge 21, 3) := by decide +kernel
theorem d_X_countNotices_12 : decode mi_X_countNotices.2.1 12 = .ok (.iload_n 1, 1) := by decide +kernel
theorem d_X_countNotices_13 : decode mi_X_countNotices.2.1 13 = .ok (.aload_n 0, 1) := by decide +kernel
theorem d_X_countNotices_14 : decode mi_X_countNotices.2.1 14 = .ok (.getfield 17, 3) := by decide +kernel
theorem d_X_countNotices_17 : decode mi_X_countNotices.2.1 17 = .ok (.iload_n 2, 1) := by decide +kernel
theorem d_X_countNotices_18 : decode mi_X_countNotices.2.1 18 = .ok (.aaload, 1) := by decide +kernel
theorem d_X_countNotices_19 : decode mi_X_countNotices.2.1 19 = .ok (.getfield 139, 3) := by decide +kernel
theorem d_X_countNotices_22 : decode mi_X_countNotices.2.1 22 = .ok (.iadd, 1) := by decide +kernel
theorem d_X_countNotices_23 : decode mi_X_countNotices.2.1 23 = .ok (.istore_n 1, 1) := by decide +kernel
theorem d_X_countNotices_24 : decode mi_X_countNotices.2.1 24 = .ok (.iinc 2 1, 3) := by decide +kernel
theorem d_X_countNotices_27 : decode mi_X_countNotices.2.1 27 = .ok (.goto (-23), 3) := by decide +kernel
theorem d_X_countNotices_30 : decode mi_X_countNotices.2.1 30 = .ok (.iload_n 1, 1) := by decide +kernel
theorem d_X_countNotices_31 : decode mi_X_countNotices.2.1 31 = .ok (.ireturn, 1) := by decide +kernel
theorem d_X_moveNotices_0 : decode mi_X_moveNotices.2.1 0 = .ok (.iload_n 2, 1) := by decide +kernel
theorem d_X_moveNotices_1 : decode mi_X_moveNotices.2.1 1 = .ok (.istore_n 3, 1) := by decide +kernel
theorem d_X_moveNotices_2 : decode mi_X_moveNotices.2.1 2 = .ok (.iconst 0, 1) := by decide +kernel
theorem d_X_moveNotices_3 : decode mi_X_moveNotices.2.1 3 = .ok (.istore 4, 2) := by decide +kernel
theorem d_X_moveNotices_5 : decode mi_X_moveNotices.2.1 5 = .ok (.iload 4, 2) := by decide +kernel
theorem d_X_moveNotices_7 : decode mi_X_moveNotices.2.1 7 = .ok (.aload_n 0, 1) := by decide +kernel
theorem d_X_moveNotices_8 : decode mi_X_moveNotices.2.1 8 = .ok (.getfield 67, 3) := by decide +kernel
theorem d_X_moveNotices_11 : decode mi_X_moveNotices.2.1 11 = .ok (.if_icmp .ge 68, 3) := by decide +kernel
theorem d_X_moveNotices_14 : decode mi_X_moveNotices.2.1 14 = .ok (.iload_n 3, 1) := by decide +kernel
theorem d_X_moveNotices_15 : decode mi_X_moveNotices.2.1 15 = .ok (.ifCond .le 58, 3) := by decide +kernel
theorem d_X_moveNotices_18 : decode mi_X_moveNotices.2.1 18 = .ok (.aload_n 0, 1) := by decide +kernel
theorem d_X_moveNotices_19 : decode mi_X_moveNotices.2.1 19 = .ok (.getfield 17, 3) := by decide +kernel
theorem d_X_moveNotices_22 : decode mi_X_moveNotices.2.1 22 = .ok (.iload 4, 2) := by decide +kernel
theorem d_X_moveNotices_24 : decode mi_X_moveNotices.2.1 24 = .ok (.aaload, 1) := by decide +kernel
theorem d_X_moveNotices_25 : decode mi_X_moveNotices.2.1 25 = .ok (.getfield 139, 3) := by decide +kernel
theorem d_X_moveNotices_28 : decode mi_X_moveNotices.2.1 28 = .ok (.ifCond .le 45, 3) := by decide +kernel
theorem d_X_moveNotices_31 : decode mi_X_moveNotices.2.1 31 = .ok (.aload_n 0, 1) := by decide +kernel
theorem d_X_moveNotices_32 : decode mi_X_moveNotices.2.1 32 = .ok (.getfield 17, 3) := by decide +kernel
theorem d_X_moveNotices_35 : decode mi_X_moveNotices.2.1 35 = .ok (.iload 4, 2) := by decide +kernel
theorem d_X_moveNotices_37 : decode mi_X_moveNotices.2.1 37 = .ok (.aaload, 1) := by decide +kernel
theorem d_X_moveNotices_38 : decode mi_X_moveNotices.2.1 38 = .ok (.invokevirtual 257, 3) := by decide +kernel
theorem d_X_moveNotices_41 : decode mi_X_moveNotices.2.1 41 = .ok (.astore 5, 2) := by decide +kernel
theorem d_X_moveNotices_43 : decode mi_X_moveNotices.2.1 43 = .ok (.aload_n 1, 1) := by decide +kernel
theorem d_X_moveNotices_44 : decode mi_X_moveNotices.2.1 44 = .ok (.iload 4, 2) := by decide +kernel
theorem d_X_moveNotices_46 : decode mi_X_moveNotices.2.1 46 = .ok (.invokevirtual 92, 3) := by decide +kernel
theorem d_X_moveNotices_49 : decode mi_X_moveNotices.2.1 49 = .ok (.aload_n 1, 1) := by decide +kernel
theorem d_X_moveNotices_50 : decode mi_X_moveNotices.2.1 50 = .ok (.aload 5, 2) := by decide +kernel
theorem d_X_moveNotices_52 : decode mi_X_moveNotices.2.1 52 = .ok (.getfield 261, 3) := by decide +kernel
theorem d_X_moveNotices_55 : decode mi_X_moveNotices.2.1 55 = .ok (.invokevirtual 164, 3) := by decide +kernel
theorem d_X_moveNotices_58 : decode mi_X_moveNotices.2.1 58 = .ok (.aload_n 1, 1) := by decide +kernel
theorem d_X_moveNotices_59 : decode mi_X_moveNotices.2.1 59 = .ok (.aload 5, 2) := by decide +kernel
theorem d_X_moveNotices_61 : decode mi_X_moveNotices.2.1 61 = .ok (.getfield 264, 3) := by decide +kernel
theorem d_X_moveNotices_64 : decode mi_X_moveNotices.2.1 64 = .ok (.invokevirtual 92, 3) := by decide +kernel
theorem d_X_moveNotices_67 : decode mi_X_moveNotices.2.1 67 = .ok (.iinc 3 (-1), 3) := by decide +kernel
theorem d_X_moveNotices_70 : decode mi_X_moveNotices.2.1 70 = .ok (.goto (-56), 3) := by decide +kernel
theorem d_X_moveNotices_73 : decode mi_X_moveNotices.2.1 73 = .ok (.iinc 4 1, 3) := by decide +kernel
theorem d_X_moveNotices_76 : decode mi_X_moveNotices.2.1 76 = .ok (.goto (-71), 3) := by decide +kernel
theorem d_X_moveNotices_79 : decode mi_X_moveNotices.2.1 79 = .ok (.return_, 1) := by decide +kernel
theorem d_X_serveAgain_0 : decode mi_X_serveAgain.2.1 0 = .ok (.aload_n 1, 1) := by decide +kernel
theorem d_X_serveAgain_1 : decode mi_X_serveAgain.2.1 1 = .ok (.invokevirtual 240, 3) := by decide +kernel
theorem d_X_serveAgain_4 : decode mi_X_serveAgain.2.1 4 = .ok (.istore_n 2, 1) := by decide +kernel
theorem d_X_serveAgain_5 : decode mi_X_serveAgain.2.1 5 = .ok (.aload_n 1, 1) := by decide +kernel
theorem d_X_serveAgain_6 : decode mi_X_serveAgain.2.1 6 = .ok (.invokevirtual 205, 3) := by decide +kernel
theorem d_X_serveAgain_9 : decode mi_X_serveAgain.2.1 9 = .ok (.ifCond .ne 5, 3) := by decide +kernel
theorem d_X_serveAgain_12 : decode mi_X_serveAgain.2.1 12 = .ok (.iconst 1, 1) := by decide +kernel
theorem d_X_serveAgain_13 : decode mi_X_serveAgain.2.1 13 = .ok (.ireturn, 1) := by decide +kernel
theorem d_X_serveAgain_14 : decode mi_X_serveAgain.2.1 14 = .ok (.aload_n 0, 1) := by decide +kernel
theorem d_X_serveAgain_15 : decode mi_X_serveAgain.2.1 15 = .ok (.getfield 24, 3) := by decide +kernel
theorem d_X_serveAgain_18 : decode mi_X_serveAgain.2.1 18 = .ok (.iload_n 2, 1) := by decide +kernel
theorem d_X_serveAgain_19 : decode mi_X_serveAgain.2.1 19 = .ok (.invokevirtual 267, 3) := by decide +kernel
theorem d_X_serveAgain_22 : decode mi_X_serveAgain.2.1 22 = .ok (.istore_n 3, 1) := by decide +kernel
theorem d_X_serveAgain_23 : decode mi_X_serveAgain.2.1 23 = .ok (.iload_n 3, 1) := by decide +kernel
theorem d_X_serveAgain_24 : decode mi_X_serveAgain.2.1 24 = .ok (.ifCond .ge 6, 3) := by decide +kernel
theorem d_X_serveAgain_27 : decode mi_X_serveAgain.2.1 27 = .ok (.bipush 8, 2) := by decide +kernel
theorem d_X_serveAgain_29 : decode mi_X_serveAgain.2.1 29 = .ok (.ireturn, 1) := by decide +kernel
theorem d_X_serveAgain_30 : decode mi_X_serveAgain.2.1 30 = .ok (.aload_n 0, 1) := by decide +kernel
theorem d_X_serveAgain_31 : decode mi_X_serveAgain.2.1 31 = .ok (.getfield 40, 3) := by decide +kernel
theorem d_X_serveAgain_34 : decode mi_X_serveAgain.2.1 34 = .ok (.aload_n 0, 1) := by decide +kernel
theorem d_X_serveAgain_35 : decode mi_X_serveAgain.2.1 35 = .ok (.getfield 24, 3) := by decide +kernel
theorem d_X_serveAgain_38 : decode mi_X_serveAgain.2.1 38 = .ok (.getfield 145, 3) := by decide +kernel
theorem d_X_serveAgain_41 : decode mi_X_serveAgain.2.1 41 = .ok (.iload_n 3, 1) := by decide +kernel
theorem d_X_serveAgain_42 : decode mi_X_serveAgain.2.1 42 = .ok (.aaload, 1) := by decide +kernel
theorem d_X_serveAgain_43 : decode mi_X_serveAgain.2.1 43 = .ok (.getfield 253, 3) := by decide +kernel
theorem d_X_serveAgain_46 : decode mi_X_serveAgain.2.1 46 = .ok (.invokevirtual 164, 3) := by decide +kernel
theorem d_X_serveAgain_49 : decode mi_X_serveAgain.2.1 49 = .ok (.iconst 0, 1) := by decide +kernel
theorem d_X_serveAgain_50 : decode mi_X_serveAgain.2.1 50 = .ok (.ireturn, 1) := by decide +kernel
theorem d_X_part_0 : decode mi_X_part.2.1 0 = .ok (.aload_n 0, 1) := by decide +kernel
theorem d_X_part_1 : decode mi_X_part.2.1 1 = .ok (.getfield 31, 3) := by decide +kernel
theorem d_X_part_4 : decode mi_X_part.2.1 4 = .ok (.getfield 124, 3) := by decide +kernel
theorem d_X_part_7 : decode mi_X_part.2.1 7 = .ok (.ifCond .eq 19, 3) := by decide +kernel
theorem d_X_part_10 : decode mi_X_part.2.1 10 = .ok (.aload_n 0, 1) := by decide +kernel
theorem d_X_part_11 : decode mi_X_part.2.1 11 = .ok (.getfield 31, 3) := by decide +kernel
theorem d_X_part_14 : decode mi_X_part.2.1 14 = .ok (.getfield 113, 3) := by decide +kernel
theorem d_X_part_17 : decode mi_X_part.2.1 17 = .ok (.getfield 127, 3) := by decide +kernel
theorem d_X_part_20 : decode mi_X_part.2.1 20 = .ok (.getfield 132, 3) := by decide +kernel
theorem d_X_part_23 : decode mi_X_part.2.1 23 = .ok (.goto 4, 3) := by decide +kernel
theorem d_X_part_26 : decode mi_X_part.2.1 26 = .ok (.iconst (-1), 1) := by decide +kernel
theorem d_X_part_27 : decode mi_X_part.2.1 27 = .ok (.ireturn, 1) := by decide +kernel
theorem d_X_answerLength_0 : decode mi_X_answerLength.2.1 0 = .ok (.aload_n 0, 1) := by decide +kernel
theorem d_X_answerLength_1 : decode mi_X_answerLength.2.1 1 = .ok (.getfield 40, 3) := by decide +kernel
theorem d_X_answerLength_4 : decode mi_X_answerLength.2.1 4 = .ok (.getfield 132, 3) := by decide +kernel
theorem d_X_answerLength_7 : decode mi_X_answerLength.2.1 7 = .ok (.ireturn, 1) := by decide +kernel
theorem d_X_answer_0 : decode mi_X_answer.2.1 0 = .ok (.iload_n 1, 1) := by decide +kernel
theorem d_X_answer_1 : decode mi_X_answer.2.1 1 = .ok (.ifCond .lt 25, 3) := by decide +kernel
theorem d_X_answer_4 : decode mi_X_answer.2.1 4 = .ok (.iload_n 1, 1) := by decide +kernel
theorem d_X_answer_5 : decode mi_X_answer.2.1 5 = .ok (.aload_n 0, 1) := by decide +kernel
theorem d_X_answer_6 : decode mi_X_answer.2.1 6 = .ok (.getfield 40, 3) := by decide +kernel
theorem d_X_answer_9 : decode mi_X_answer.2.1 9 = .ok (.getfield 132, 3) := by decide +kernel
theorem d_X_answer_12 : decode mi_X_answer.2.1 12 = .ok (.if_icmp .ge 14, 3) := by decide +kernel
theorem d_X_answer_15 : decode mi_X_answer.2.1 15 = .ok (.aload_n 0, 1) := by decide +kernel
theorem d_X_answer_16 : decode mi_X_answer.2.1 16 = .ok (.getfield 40, 3) := by decide +kernel
theorem d_X_answer_19 : decode mi_X_answer.2.1 19 = .ok (.iload_n 1, 1) := by decide +kernel
theorem d_X_answer_20 : decode mi_X_answer.2.1 20 = .ok (.invokevirtual 135, 3) := by decide +kernel
theorem d_X_answer_23 : decode mi_X_answer.2.1 23 = .ok (.goto 4, 3) := by decide +kernel
theorem d_X_answer_26 : decode mi_X_answer.2.1 26 = .ok (.iconst (-1), 1) := by decide +kernel
theorem d_X_answer_27 : decode mi_X_answer.2.1 27 = .ok (.ireturn, 1) := by decide +kernel
theorem d_X_request_0 : decode mi_X_request.2.1 0 = .ok (.aload_n 0, 1) := by decide +kernel
theorem d_X_request_1 : decode mi_X_request.2.1 1 = .ok (.getfield 61, 3) := by decide +kernel
theorem d_X_request_4 : decode mi_X_request.2.1 4 = .ok (.ireturn, 1) := by decide +kernel
theorem d_X_queue_0 : decode mi_X_queue.2.1 0 = .ok (.iload_n 1, 1) := by decide +kernel
theorem d_X_queue_1 : decode mi_X_queue.2.1 1 = .ok (.ifCond .lt 23, 3) := by decide +kernel
theorem d_X_queue_4 : decode mi_X_queue.2.1 4 = .ok (.iload_n 1, 1) := by decide +kernel
theorem d_X_queue_5 : decode mi_X_queue.2.1 5 = .ok (.aload_n 0, 1) := by decide +kernel
theorem d_X_queue_6 : decode mi_X_queue.2.1 6 = .ok (.getfield 67, 3) := by decide +kernel
theorem d_X_queue_9 : decode mi_X_queue.2.1 9 = .ok (.if_icmp .ge 15, 3) := by decide +kernel
theorem d_X_queue_12 : decode mi_X_queue.2.1 12 = .ok (.aload_n 0, 1) := by decide +kernel
theorem d_X_queue_13 : decode mi_X_queue.2.1 13 = .ok (.getfield 17, 3) := by decide +kernel
theorem d_X_queue_16 : decode mi_X_queue.2.1 16 = .ok (.iload_n 1, 1) := by decide +kernel
theorem d_X_queue_17 : decode mi_X_queue.2.1 17 = .ok (.aaload, 1) := by decide +kernel
theorem d_X_queue_18 : decode mi_X_queue.2.1 18 = .ok (.getfield 139, 3) := by decide +kernel
theorem d_X_queue_21 : decode mi_X_queue.2.1 21 = .ok (.goto 4, 3) := by decide +kernel
theorem d_X_queue_24 : decode mi_X_queue.2.1 24 = .ok (.iconst (-1), 1) := by decide +kernel
theorem d_X_queue_25 : decode mi_X_queue.2.1 25 = .ok (.ireturn, 1) := by decide +kernel
theorem d_X_parcels_0 : decode mi_X_parcels.2.1 0 = .ok (.aload_n 0, 1) := by decide +kernel
theorem d_X_parcels_1 : decode mi_X_parcels.2.1 1 = .ok (.getfield 24, 3) := by decide +kernel
theorem d_X_parcels_4 : decode mi_X_parcels.2.1 4 = .ok (.getfield 142, 3) := by decide +kernel
theorem d_X_parcels_7 : decode mi_X_parcels.2.1 7 = .ok (.ireturn, 1) := by decide +kernel
theorem d_X_parcel_0 : decode mi_X_parcel.2.1 0 = .ok (.iload_n 1, 1) := by decide +kernel
theorem d_X_parcel_1 : decode mi_X_parcel.2.1 1 = .ok (.ifCond .lt 29, 3) := by decide +kernel
theorem d_X_parcel_4 : decode mi_X_parcel.2.1 4 = .ok (.iload_n 1, 1) := by decide +kernel
theorem d_X_parcel_5 : decode mi_X_parcel.2.1 5 = .ok (.aload_n 0, 1) := by decide +kernel
theorem d_X_parcel_6 : decode mi_X_parcel.2.1 6 = .ok (.getfield 24, 3) := by decide +kernel
theorem d_X_parcel_9 : decode mi_X_parcel.2.1 9 = .ok (.getfield 142, 3) := by decide +kernel
theorem d_X_parcel_12 : decode mi_X_parcel.2.1 12 = .ok (.if_icmp .ge 18, 3) := by decide +kernel
theorem d_X_parcel_15 : decode mi_X_parcel.2.1 15 = .ok (.aload_n 0, 1) := by decide +kernel
theorem d_X_parcel_16 : decode mi_X_parcel.2.1 16 = .ok (.getfield 24, 3) := by decide +kernel
theorem d_X_parcel_19 : decode mi_X_parcel.2.1 19 = .ok (.getfield 145, 3) := by decide +kernel
theorem d_X_parcel_22 : decode mi_X_parcel.2.1 22 = .ok (.iload_n 1, 1) := by decide +kernel
theorem d_X_parcel_23 : decode mi_X_parcel.2.1 23 = .ok (.aaload, 1) := by decide +kernel
theorem d_X_parcel_24 : decode mi_X_parcel.2.1 24 = .ok (.getfield 149, 3) := by decide +kernel
theorem d_X_parcel_27 : decode mi_X_parcel.2.1 27 = .ok (.goto 4, 3) := by decide +kernel
theorem d_X_parcel_30 : decode mi_X_parcel.2.1 30 = .ok (.iconst (-1), 1) := by decide +kernel
theorem d_X_parcel_31 : decode mi_X_parcel.2.1 31 = .ok (.ireturn, 1) := by decide +kernel
theorem d_X_size_0 : decode mi_X_size.2.1 0 = .ok (.aload_n 0, 1) := by decide +kernel
theorem d_X_size_1 : decode mi_X_size.2.1 1 = .ok (.iload_n 1, 1) := by decide +kernel
theorem d_X_size_2 : decode mi_X_size.2.1 2 = .ok (.invokevirtual 86, 3) := by decide +kernel
theorem d_X_size_5 : decode mi_X_size.2.1 5 = .ok (.ifCond .eq 18, 3) := by decide +kernel
theorem d_X_size_8 : decode mi_X_size.2.1 8 = .ok (.aload_n 0, 1) := by decide +kernel
theorem d_X_size_9 : decode mi_X_size.2.1 9 = .ok (.getfield 11, 3) := by decide +kernel
theorem d_X_size_12 : decode mi_X_size.2.1 12 = .ok (.iload_n 1, 1) := by decide +kernel
theorem d_X_size_13 : decode mi_X_size.2.1 13 = .ok (.aaload, 1) := by decide +kernel
theorem d_X_size_14 : decode mi_X_size.2.1 14 = .ok (.getfield 154, 3) := by decide +kernel
theorem d_X_size_17 : decode mi_X_size.2.1 17 = .ok (.getfield 132, 3) := by decide +kernel
theorem d_X_size_20 : decode mi_X_size.2.1 20 = .ok (.goto 4, 3) := by decide +kernel
theorem d_X_size_23 : decode mi_X_size.2.1 23 = .ok (.iconst (-1), 1) := by decide +kernel
theorem d_X_size_24 : decode mi_X_size.2.1 24 = .ok (.ireturn, 1) := by decide +kernel
end
section
theorem d_M_init_0 : decode mi_M_init.2.1 0 = .ok (.aload_n 0, 1) := by decide +kernel
theorem d_M_init_1 : decode mi_M_init.2.1 1 = .ok (.invokespecial 1, 3) := by decide +kernel
theorem d_M_init_4 : decode mi_M_init.2.1 4 = .ok (.aload_n 0, 1) := by decide +kernel
theorem d_M_init_5 : decode mi_M_init.2.1 5 = .ok (.iconst 1, 1) := by decide +kernel
theorem d_M_init_6 : decode mi_M_init.2.1 6 = .ok (.putfield 7, 3) := by decide +kernel
theorem d_M_init_9 : decode mi_M_init.2.1 9 = .ok (.aload_n 0, 1) := by decide +kernel
theorem d_M_init_10 : decode mi_M_init.2.1 10 = .ok (.bipush 16, 2) := by decide +kernel
theorem d_M_init_12 : decode mi_M_init.2.1 12 = .ok (.newarray .int, 2) := by decide +kernel
theorem d_M_init_14 : decode mi_M_init.2.1 14 = .ok (.putfield 13, 3) := by decide +kernel
theorem d_M_init_17 : decode mi_M_init.2.1 17 = .ok (.aload_n 0, 1) := by decide +kernel
theorem d_M_init_18 : decode mi_M_init.2.1 18 = .ok (.bipush 16, 2) := by decide +kernel
theorem d_M_init_20 : decode mi_M_init.2.1 20 = .ok (.newarray .boolean, 2) := by decide +kernel
theorem d_M_init_22 : decode mi_M_init.2.1 22 = .ok (.putfield 17, 3) := by decide +kernel
theorem d_M_init_25 : decode mi_M_init.2.1 25 = .ok (.aload_n 0, 1) := by decide +kernel
theorem d_M_init_26 : decode mi_M_init.2.1 26 = .ok (.bipush 16, 2) := by decide +kernel
theorem d_M_init_28 : decode mi_M_init.2.1 28 = .ok (.newarray .int, 2) := by decide +kernel
theorem d_M_init_30 : decode mi_M_init.2.1 30 = .ok (.putfield 21, 3) := by decide +kernel
theorem d_M_init_33 : decode mi_M_init.2.1 33 = .ok (.aload_n 0, 1) := by decide +kernel
theorem d_M_init_34 : decode mi_M_init.2.1 34 = .ok (.bipush 16, 2) := by decide +kernel
theorem d_M_init_36 : decode mi_M_init.2.1 36 = .ok (.newarray .int, 2) := by decide +kernel
theorem d_M_init_38 : decode mi_M_init.2.1 38 = .ok (.putfield 24, 3) := by decide +kernel
theorem d_M_init_41 : decode mi_M_init.2.1 41 = .ok (.aload_n 0, 1) := by decide +kernel
theorem d_M_init_42 : decode mi_M_init.2.1 42 = .ok (.sipush 1024, 3) := by decide +kernel
theorem d_M_init_45 : decode mi_M_init.2.1 45 = .ok (.newarray .int, 2) := by decide +kernel
theorem d_M_init_47 : decode mi_M_init.2.1 47 = .ok (.putfield 27, 3) := by decide +kernel
theorem d_M_init_50 : decode mi_M_init.2.1 50 = .ok (.aload_n 0, 1) := by decide +kernel
theorem d_M_init_51 : decode mi_M_init.2.1 51 = .ok (.bipush 6, 2) := by decide +kernel
theorem d_M_init_53 : decode mi_M_init.2.1 53 = .ok (.newarray .int, 2) := by decide +kernel
theorem d_M_init_55 : decode mi_M_init.2.1 55 = .ok (.putfield 30, 3) := by decide +kernel
theorem d_M_init_58 : decode mi_M_init.2.1 58 = .ok (.aload_n 0, 1) := by decide +kernel
theorem d_M_init_59 : decode mi_M_init.2.1 59 = .ok (.bipush 6, 2) := by decide +kernel
theorem d_M_init_61 : decode mi_M_init.2.1 61 = .ok (.newarray .int, 2) := by decide +kernel
theorem d_M_init_63 : decode mi_M_init.2.1 63 = .ok (.putfield 33, 3) := by decide +kernel
theorem d_M_init_66 : decode mi_M_init.2.1 66 = .ok (.aload_n 0, 1) := by decide +kernel
theorem d_M_init_67 : decode mi_M_init.2.1 67 = .ok (.bipush 6, 2) := by decide +kernel
theorem d_M_init_69 : decode mi_M_init.2.1 69 = .ok (.newarray .boolean, 2) := by decide +kernel
theorem d_M_init_71 : decode mi_M_init.2.1 71 = .ok (.putfield 36, 3) := by decide +kernel
theorem d_M_init_74 : decode mi_M_init.2.1 74 = .ok (.aload_n 0, 1) := by decide +kernel
theorem d_M_init_75 : decode mi_M_init.2.1 75 = .ok (.bipush 6, 2) := by decide +kernel
theorem d_M_init_77 : decode mi_M_init.2.1 77 = .ok (.newarray .int, 2) := by decide +kernel
theorem d_M_init_79 : decode mi_M_init.2.1 79 = .ok (.putfield 39, 3) := by decide +kernel
theorem d_M_init_82 : decode mi_M_init.2.1 82 = .ok (.aload_n 0, 1) := by decide +kernel
theorem d_M_init_83 : decode mi_M_init.2.1 83 = .ok (.bipush 24, 2) := by decide +kernel
theorem d_M_init_85 : decode mi_M_init.2.1 85 = .ok (.newarray .int, 2) := by decide +kernel
theorem d_M_init_87 : decode mi_M_init.2.1 87 = .ok (.putfield 42, 3) := by decide +kernel
theorem d_M_init_90 : decode mi_M_init.2.1 90 = .ok (.aload_n 0, 1) := by decide +kernel
theorem d_M_init_91 : decode mi_M_init.2.1 91 = .ok (.bipush 24, 2) := by decide +kernel
theorem d_M_init_93 : decode mi_M_init.2.1 93 = .ok (.newarray .int, 2) := by decide +kernel
theorem d_M_init_95 : decode mi_M_init.2.1 95 = .ok (.putfield 45, 3) := by decide +kernel
theorem d_M_init_98 : decode mi_M_init.2.1 98 = .ok (.aload_n 0, 1) := by decide +kernel
theorem d_M_init_99 : decode mi_M_init.2.1 99 = .ok (.sipush 1536, 3) := by decide +kernel
theorem d_M_init_102 : decode mi_M_init.2.1 102 = .ok (.newarray .int, 2) := by decide +kernel
theorem d_M_init_104 : decode mi_M_init.2.1 104 = .ok (.putfield 48, 3) := by decide +kernel
theorem d_M_init_107 : decode mi_M_init.2.1 107 = .ok (.aload_n 0, 1) := by decide +kernel
theorem d_M_init_108 : decode mi_M_init.2.1 108 = .ok (.iconst 3, 1) := by decide +kernel
theorem d_M_init_109 : decode mi_M_init.2.1 109 = .ok (.newarray .int, 2) := by decide +kernel
theorem d_M_init_111 : decode mi_M_init.2.1 111 = .ok (.putfield 51, 3) := by decide +kernel
theorem d_M_init_114 : decode mi_M_init.2.1 114 = .ok (.aload_n 0, 1) := by decide +kernel
theorem d_M_init_115 : decode mi_M_init.2.1 115 = .ok (.iconst 3, 1) := by decide +kernel
theorem d_M_init_116 : decode mi_M_init.2.1 116 = .ok (.newarray .int, 2) := by decide +kernel
theorem d_M_init_118 : decode mi_M_init.2.1 118 = .ok (.putfield 54, 3) := by decide +kernel
theorem d_M_init_121 : decode mi_M_init.2.1 121 = .ok (.aload_n 0, 1) := by decide +kernel
theorem d_M_init_122 : decode mi_M_init.2.1 122 = .ok (.sipush 600, 3) := by decide +kernel
theorem d_M_init_125 : decode mi_M_init.2.1 125 = .ok (.newarray .int, 2) := by decide +kernel
theorem d_M_init_127 : decode mi_M_init.2.1 127 = .ok (.putfield 57, 3) := by decide +kernel
theorem d_M_init_130 : decode mi_M_init.2.1 130 = .ok (.aload_n 0, 1) := by decide +kernel
theorem d_M_init_131 : decode mi_M_init.2.1 131 = .ok (.bipush 64, 2) := by decide +kernel
theorem d_M_init_133 : decode mi_M_init.2.1 133 = .ok (.newarray .int, 2) := by decide +kernel
theorem d_M_init_135 : decode mi_M_init.2.1 135 = .ok (.putfield 60, 3) := by decide +kernel
theorem d_M_init_138 : decode mi_M_init.2.1 138 = .ok (.aload_n 0, 1) := by decide +kernel
theorem d_M_init_139 : decode mi_M_init.2.1 139 = .ok (.bipush 64, 2) := by decide +kernel
theorem d_M_init_141 : decode mi_M_init.2.1 141 = .ok (.newarray .int, 2) := by decide +kernel
theorem d_M_init_143 : decode mi_M_init.2.1 143 = .ok (.putfield 63, 3) := by decide +kernel
theorem d_M_init_146 : decode mi_M_init.2.1 146 = .ok (.aload_n 0, 1) := by decide +kernel
theorem d_M_init_147 : decode mi_M_init.2.1 147 = .ok (.iconst 4, 1) := by decide +kernel
theorem d_M_init_148 : decode mi_M_init.2.1 148 = .ok (.newarray .int, 2) := by decide +kernel
theorem d_M_init_150 : decode mi_M_init.2.1 150 = .ok (.putfield 66, 3) := by decide +kernel
theorem d_M_init_153 : decode mi_M_init.2.1 153 = .ok (.aload_n 0, 1) := by decide +kernel
theorem d_M_init_154 : decode mi_M_init.2.1 154 = .ok (.sipush 200, 3) := by decide +kernel
theorem d_M_init_157 : decode mi_M_init.2.1 157 = .ok (.newarray .int, 2) := by decide +kernel
theorem d_M_init_159 : decode mi_M_init.2.1 159 = .ok (.putfield 69, 3) := by decide +kernel
theorem d_M_init_162 : decode mi_M_init.2.1 162 = .ok (.aload_n 0, 1) := by decide +kernel
theorem d_M_init_163 : decode mi_M_init.2.1 163 = .ok (.getfield 13, 3) := by decide +kernel
theorem d_M_init_166 : decode mi_M_init.2.1 166 = .ok (.iconst 0, 1) := by decide +kernel
theorem d_M_init_167 : decode mi_M_init.2.1 167 = .ok (.iconst (-1), 1) := by decide +kernel
theorem d_M_init_168 : decode mi_M_init.2.1 168 = .ok (.iastore, 1) := by decide +kernel
theorem d_M_init_169 : decode mi_M_init.2.1 169 = .ok (.return_, 1) := by decide +kernel
theorem d_M_open_0 : decode mi_M_open.2.1 0 = .ok (.aload_n 0, 1) := by decide +kernel
theorem d_M_open_1 : decode mi_M_open.2.1 1 = .ok (.iconst 0, 1) := by decide +kernel
theorem d_M_open_2 : decode mi_M_open.2.1 2 = .ok (.putfield 72, 3) := by decide +kernel
theorem d_M_open_5 : decode mi_M_open.2.1 5 = .ok (.aload_n 0, 1) := by decide +kernel
theorem d_M_open_6 : decode mi_M_open.2.1 6 = .ok (.iconst 0, 1) := by decide +kernel
theorem d_M_open_7 : decode mi_M_open.2.1 7 = .ok (.putfield 76, 3) := by decide +kernel
theorem d_M_open_10 : decode mi_M_open.2.1 10 = .ok (.aload_n 0, 1) := by decide +kernel
theorem d_M_open_11 : decode mi_M_open.2.1 11 = .ok (.iconst 0, 1) := by decide +kernel
theorem d_M_open_12 : decode mi_M_open.2.1 12 = .ok (.putfield 79, 3) := by decide +kernel
theorem d_M_open_15 : decode mi_M_open.2.1 15 = .ok (.aload_n 0, 1) := by decide +kernel
theorem d_M_open_16 : decode mi_M_open.2.1 16 = .ok (.iconst 0, 1) := by decide +kernel
theorem d_M_open_17 : decode mi_M_open.2.1 17 = .ok (.putfield 82, 3) := by decide +kernel
theorem d_M_open_20 : decode mi_M_open.2.1 20 = .ok (.aload_n 0, 1) := by decide +kernel
theorem d_M_open_21 : decode mi_M_open.2.1 21 = .ok (.iconst 0, 1) := by decide +kernel
theorem d_M_open_22 : decode mi_M_open.2.1 22 = .ok (.putfield 85, 3) := by decide +kernel
theorem d_M_open_25 : decode mi_M_open.2.1 25 = .ok (.aload_n 0, 1) := by decide +kernel
theorem d_M_open_26 : decode mi_M_open.2.1 26 = .ok (.iconst 0, 1) := by decide +kernel
theorem d_M_open_27 : decode mi_M_open.2.1 27 = .ok (.putfield 88, 3) := by decide +kernel
theorem d_M_open_30 : decode mi_M_open.2.1 30 = .ok (.aload_n 0, 1) := by decide +kernel
theorem d_M_open_31 : decode mi_M_open.2.1 31 = .ok (.iconst 0, 1) := by decide +kernel
theorem d_M_open_32 : decode mi_M_open.2.1 32 = .ok (.putfield 91, 3) := by decide +kernel
theorem d_M_open_35 : decode mi_M_open.2.1 35 = .ok (.aload_n 0, 1) := by decide +kernel
theorem d_M_open_36 : decode mi_M_open.2.1 36 = .ok (.iconst 0, 1) := by decide +kernel
theorem d_M_open_37 : decode mi_M_open.2.1 37 = .ok (.putfield 94, 3) := by decide +kernel
theorem d_M_open_40 : decode mi_M_open.2.1 40 = .ok (.return_, 1) := by decide +kernel
theorem d_M_isOpen_0 : decode mi_M_isOpen.2.1 0 = .ok (.aload_n 0, 1) := by decide +kernel
theorem d_M_isOpen_1 : decode mi_M_isOpen.2.1 1 = .ok (.getfield 72, 3) := by decide +kernel
theorem d_M_isOpen_4 : decode mi_M_isOpen.2.1 4 = .ok (.ifCond .ne 7, 3) := by decide +kernel
theorem d_M_isOpen_7 : decode mi_M_isOpen.2.1 7 = .ok (.iconst 1, 1) := by decide +kernel
theorem d_M_isOpen_8 : decode mi_M_isOpen.2.1 8 = .ok (.goto 4, 3) := by decide +kernel
theorem d_M_isOpen_11 : decode mi_M_isOpen.2.1 11 = .ok (.iconst 0, 1) := by decide +kernel
theorem d_M_isOpen_12 : decode mi_M_isOpen.2.1 12 = .ok (.ireturn, 1) := by decide +kernel
theorem d_M_folder_0 : decode mi_M_folder.2.1 0 = .ok (.aload_n 0, 1) := by decide +kernel
theorem d_M_folder_1 : decode mi_M_folder.2.1 1 = .ok (.iload_n 1, 1) := by decide +kernel
theorem d_M_folder_2 : decode mi_M_folder.2.1 2 = .ok (.iconst 0, 1) := by decide +kernel
theorem d_M_folder_3 : decode mi_M_folder.2.1 3 = .ok (.iconst 0, 1) := by decide +kernel
theorem d_M_folder_4 : decode mi_M_folder.2.1 4 = .ok (.invokevirtual 101, 3) := by decide +kernel
theorem d_M_folder_7 : decode mi_M_folder.2.1 7 = .ok (.ireturn, 1) := by decide +kernel
theorem d_M_make_0 : decode mi_M_make.2.1 0 = .ok (.aload_n 0, 1) := by decide +kernel
theorem d_M_make_1 : decode mi_M_make.2.1 1 = .ok (.iload_n 1, 1) := by decide +kernel
theorem d_M_make_2 : decode mi_M_make.2.1 2 = .ok (.invokevirtual 97, 3) := by decide +kernel
theorem d_M_make_5 : decode mi_M_make.2.1 5 = .ok (.ifCond .eq 21, 3) := by decide +kernel
theorem d_M_make_8 : decode mi_M_make.2.1 8 = .ok (.aload_n 0, 1) := by decide +kernel
theorem d_M_make_9 : decode mi_M_make.2.1 9 = .ok (.getfield 17, 3) := by decide +kernel
theorem d_M_make_12 : decode mi_M_make.2.1 12 = .ok (.iload_n 1, 1) := by decide +kernel
theorem d_M_make_13 : decode mi_M_make.2.1 13 = .ok (.baload, 1) := by decide +kernel
theorem d_M_make_14 : decode mi_M_make.2.1 14 = .ok (.ifCond .ne 12, 3) := by decide +kernel
theorem d_M_make_17 : decode mi_M_make.2.1 17 = .ok (.aload_n 0, 1) := by decide +kernel
theorem d_M_make_18 : decode mi_M_make.2.1 18 = .ok (.getfield 7, 3) := by decide +kernel
theorem d_M_make_21 : decode mi_M_make.2.1 21 = .ok (.bipush 16, 2) := by decide +kernel
theorem d_M_make_23 : decode mi_M_make.2.1 23 = .ok (.if_icmp .ne 5, 3) := by decide +kernel
theorem d_M_make_26 : decode mi_M_make.2.1 26 = .ok (.iconst (-1), 1) := by decide +kernel
theorem d_M_make_27 : decode mi_M_make.2.1 27 = .ok (.ireturn, 1) := by decide +kernel
theorem d_M_make_28 : decode mi_M_make.2.1 28 = .ok (.aload_n 0, 1) := by decide +kernel
theorem d_M_make_29 : decode mi_M_make.2.1 29 = .ok (.getfield 13, 3) := by decide +kernel
theorem d_M_make_32 : decode mi_M_make.2.1 32 = .ok (.aload_n 0, 1) := by decide +kernel
theorem d_M_make_33 : decode mi_M_make.2.1 33 = .ok (.getfield 7, 3) := by decide +kernel
theorem d_M_make_36 : decode mi_M_make.2.1 36 = .ok (.iload_n 1, 1) := by decide +kernel
theorem d_M_make_37 : decode mi_M_make.2.1 37 = .ok (.iastore, 1) := by decide +kernel
theorem d_M_make_38 : decode mi_M_make.2.1 38 = .ok (.aload_n 0, 1) := by decide +kernel
theorem d_M_make_39 : decode mi_M_make.2.1 39 = .ok (.getfield 17, 3) := by decide +kernel
theorem d_M_make_42 : decode mi_M_make.2.1 42 = .ok (.aload_n 0, 1) := by decide +kernel
theorem d_M_make_43 : decode mi_M_make.2.1 43 = .ok (.getfield 7, 3) := by decide +kernel
theorem d_M_make_46 : decode mi_M_make.2.1 46 = .ok (.iload_n 2, 1) := by decide +kernel
theorem d_M_make_47 : decode mi_M_make.2.1 47 = .ok (.bastore, 1) := by decide +kernel
theorem d_M_make_48 : decode mi_M_make.2.1 48 = .ok (.aload_n 0, 1) := by decide +kernel
theorem d_M_make_49 : decode mi_M_make.2.1 49 = .ok (.getfield 21, 3) := by decide +kernel
theorem d_M_make_52 : decode mi_M_make.2.1 52 = .ok (.aload_n 0, 1) := by decide +kernel
theorem d_M_make_53 : decode mi_M_make.2.1 53 = .ok (.getfield 7, 3) := by decide +kernel
theorem d_M_make_56 : decode mi_M_make.2.1 56 = .ok (.iload_n 3, 1) := by decide +kernel
theorem d_M_make_57 : decode mi_M_make.2.1 57 = .ok (.iastore, 1) := by decide +kernel
theorem d_M_make_58 : decode mi_M_make.2.1 58 = .ok (.aload_n 0, 1) := by decide +kernel
theorem d_M_make_59 : decode mi_M_make.2.1 59 = .ok (.getfield 24, 3) := by decide +kernel
theorem d_M_make_62 : decode mi_M_make.2.1 62 = .ok (.aload_n 0, 1) := by decide +kernel
theorem d_M_make_63 : decode mi_M_make.2.1 63 = .ok (.getfield 7, 3) := by decide +kernel
theorem d_M_make_66 : decode mi_M_make.2.1 66 = .ok (.iconst 0, 1) := by decide +kernel
theorem d_M_make_67 : decode mi_M_make.2.1 67 = .ok (.iastore, 1) := by decide +kernel
theorem d_M_make_68 : decode mi_M_make.2.1 68 = .ok (.aload_n 0, 1) := by decide +kernel
theorem d_M_make_69 : decode mi_M_make.2.1 69 = .ok (.dup, 1) := by decide +kernel
theorem d_M_make_70 : decode mi_M_make.2.1 70 = .ok (.getfield 7, 3) := by decide +kernel
theorem d_M_make_73 : decode mi_M_make.2.1 73 = .ok (.iconst 1, 1) := by decide +kernel
theorem d_M_make_74 : decode mi_M_make.2.1 74 = .ok (.iadd, 1) := by decide +kernel
theorem d_M_make_75 : decode mi_M_make.2.1 75 = .ok (.putfield 7, 3) := by decide +kernel
theorem d_M_make_78 : decode mi_M_make.2.1 78 = .ok (.aload_n 0, 1) := by decide +kernel
theorem d_M_make_79 : decode mi_M_make.2.1 79 = .ok (.getfield 7, 3) := by decide +kernel
theorem d_M_make_82 : decode mi_M_make.2.1 82 = .ok (.iconst 1, 1) := by decide +kernel
theorem d_M_make_83 : decode mi_M_make.2.1 83 = .ok (.isub, 1) := by decide +kernel
theorem d_M_make_84 : decode mi_M_make.2.1 84 = .ok (.ireturn, 1) := by decide +kernel
theorem d_M_isNode_0 : decode mi_M_isNode.2.1 0 = .ok (.iload_n 1, 1) := by decide +kernel
theorem d_M_isNode_1 : decode mi_M_isNode.2.1 1 = .ok (.ifCond .lt 15, 3) := by decide +kernel
theorem d_M_isNode_4 : decode mi_M_isNode.2.1 4 = .ok (.iload_n 1, 1) := by decide +kernel
theorem d_M_isNode_5 : decode mi_M_isNode.2.1 5 = .ok (.aload_n 0, 1) := by decide +kernel
theorem d_M_isNode_6 : decode mi_M_isNode.2.1 6 = .ok (.getfield 7, 3) := by decide +kernel
theorem d_M_isNode_9 : decode mi_M_isNode.2.1 9 = .ok (.if_icmp .ge 7, 3) := by decide +kernel
theorem d_M_isNode_12 : decode mi_M_isNode.2.1 12 = .ok (.iconst 1, 1) := by decide +kernel
theorem d_M_isNode_13 : decode mi_M_isNode.2.1 13 = .ok (.goto 4, 3) := by decide +kernel
theorem d_M_isNode_16 : decode mi_M_isNode.2.1 16 = .ok (.iconst 0, 1) := by decide +kernel
theorem d_M_isNode_17 : decode mi_M_isNode.2.1 17 = .ok (.ireturn, 1) := by decide +kernel
theorem d_M_variable_0 : decode mi_M_variable.2.1 0 = .ok (.iload_n 2, 1) := by decide +kernel
theorem d_M_variable_1 : decode mi_M_variable.2.1 1 = .ok (.ifCond .eq 28, 3) := by decide +kernel
theorem d_M_variable_4 : decode mi_M_variable.2.1 4 = .ok (.iload_n 2, 1) := by decide +kernel
theorem d_M_variable_5 : decode mi_M_variable.2.1 5 = .ok (.iconst 1, 1) := by decide +kernel
theorem d_M_variable_6 : decode mi_M_variable.2.1 6 = .ok (.if_icmp .eq 23, 3) := by decide +kernel
theorem d_M_variable_9 : decode mi_M_variable.2.1 9 = .ok (.iload_n 2, 1) := by decide +kernel
theorem d_M_variable_10 : decode mi_M_variable.2.1 10 = .ok (.bipush 6, 2) := by decide +kernel
theorem d_M_variable_12 : decode mi_M_variable.2.1 12 = .ok (.if_icmp .eq 17, 3) := by decide +kernel
theorem d_M_variable_15 : decode mi_M_variable.2.1 15 = .ok (.iload_n 2, 1) := by decide +kernel
theorem d_M_variable_16 : decode mi_M_variable.2.1 16 = .ok (.bipush 8, 2) := by decide +kernel
theorem d_M_variable_18 : decode mi_M_variable.2.1 18 = .ok (.if_icmp .eq 11, 3) := by decide +kernel
theorem d_M_variable_21 : decode mi_M_variable.2.1 21 = .ok (.iload_n 2, 1) := by decide +kernel
theorem d_M_variable_22 : decode mi_M_variable.2.1 22 = .ok (.bipush 12, 2) := by decide +kernel
theorem d_M_variable_24 : decode mi_M_variable.2.1 24 = .ok (.if_icmp .eq 5, 3) := by decide +kernel
theorem d_M_variable_27 : decode mi_M_variable.2.1 27 = .ok (.iconst (-1), 1) := by decide +kernel
theorem d_M_variable_28 : decode mi_M_variable.2.1 28 = .ok (.ireturn, 1) := by decide +kernel
theorem d_M_variable_29 : decode mi_M_variable.2.1 29 = .ok (.aload_n 0, 1) := by decide +kernel
theorem d_M_variable_30 : decode mi_M_variable.2.1 30 = .ok (.iload_n 1, 1) := by decide +kernel
theorem d_M_variable_31 : decode mi_M_variable.2.1 31 = .ok (.iconst 1, 1) := by decide +kernel
theorem d_M_variable_32 : decode mi_M_variable.2.1 32 = .ok (.iload_n 2, 1) := by decide +kernel
theorem d_M_variable_33 : decode mi_M_variable.2.1 33 = .ok (.invokevirtual 101, 3) := by decide +kernel
theorem d_M_variable_36 : decode mi_M_variable.2.1 36 = .ok (.istore_n 3, 1) := by decide +kernel
theorem d_M_variable_37 : decode mi_M_variable.2.1 37 = .ok (.iload_n 3, 1) := by decide +kernel
theorem d_M_variable_38 : decode mi_M_variable.2.1 38 = .ok (.ifCond .lt 79, 3) := by decide +kernel
theorem d_M_variable_41 : decode mi_M_variable.2.1 41 = .ok (.iload_n 2, 1) := by decide +kernel
theorem d_M_variable_42 : decode mi_M_variable.2.1 42 = .ok (.ifCond .ne 7, 3) := by decide +kernel
theorem d_M_variable_45 : decode mi_M_variable.2.1 45 = .ok (.iconst 0, 1) := by decide +kernel
theorem d_M_variable_46 : decode mi_M_variable.2.1 46 = .ok (.goto 24, 3) := by decide +kernel
theorem d_M_variable_49 : decode mi_M_variable.2.1 49 = .ok (.iload_n 2, 1) := by decide +kernel
theorem d_M_variable_50 : decode mi_M_variable.2.1 50 = .ok (.iconst 1, 1) := by decide +kernel
theorem d_M_variable_51 : decode mi_M_variable.2.1 51 = .ok (.if_icmp .ne 7, 3) := by decide +kernel
theorem d_M_variable_54 : decode mi_M_variable.2.1 54 = .ok (.iconst 1, 1) := by decide +kernel
theorem d_M_variable_55 : decode mi_M_variable.2.1 55 = .ok (.goto 15, 3) := by decide +kernel
theorem d_M_variable_58 : decode mi_M_variable.2.1 58 = .ok (.iload_n 2, 1) := by decide +kernel
theorem d_M_variable_59 : decode mi_M_variable.2.1 59 = .ok (.bipush 8, 2) := by decide +kernel
theorem d_M_variable_61 : decode mi_M_variable.2.1 61 = .ok (.if_icmp .ne 8, 3) := by decide +kernel
theorem d_M_variable_64 : decode mi_M_variable.2.1 64 = .ok (.bipush 8, 2) := by decide +kernel
theorem d_M_variable_66 : decode mi_M_variable.2.1 66 = .ok (.goto 4, 3) := by decide +kernel
theorem d_M_variable_69 : decode mi_M_variable.2.1 69 = .ok (.iconst 4, 1) := by decide +kernel
theorem d_M_variable_70 : decode mi_M_variable.2.1 70 = .ok (.istore 4, 2) := by decide +kernel
theorem d_M_variable_72 : decode mi_M_variable.2.1 72 = .ok (.aload_n 0, 1) := by decide +kernel
theorem d_M_variable_73 : decode mi_M_variable.2.1 73 = .ok (.getfield 27, 3) := by decide +kernel
theorem d_M_variable_76 : decode mi_M_variable.2.1 76 = .ok (.bipush 64, 2) := by decide +kernel
theorem d_M_variable_78 : decode mi_M_variable.2.1 78 = .ok (.iload_n 3, 1) := by decide +kernel
theorem d_M_variable_79 : decode mi_M_variable.2.1 79 = .ok (.imul, 1) := by decide +kernel
theorem d_M_variable_80 : decode mi_M_variable.2.1 80 = .ok (.iload_n 2, 1) := by decide +kernel
theorem d_M_variable_81 : decode mi_M_variable.2.1 81 = .ok (.iastore, 1) := by decide +kernel
theorem d_M_variable_82 : decode mi_M_variable.2.1 82 = .ok (.aload_n 0, 1) := by decide +kernel
theorem d_M_variable_83 : decode mi_M_variable.2.1 83 = .ok (.bipush 64, 2) := by decide +kernel
theorem d_M_variable_85 : decode mi_M_variable.2.1 85 = .ok (.iload_n 3, 1) := by decide +kernel
theorem d_M_variable_86 : decode mi_M_variable.2.1 86 = .ok (.imul, 1) := by decide +kernel
theorem d_M_variable_87 : decode mi_M_variable.2.1 87 = .ok (.iconst 1, 1) := by decide +kernel
theorem d_M_variable_88 : decode mi_M_variable.2.1 88 = .ok (.iadd, 1) := by decide +kernel
theorem d_M_variable_89 : decode mi_M_variable.2.1 89 = .ok (.iload_n 2, 1) := by decide +kernel
theorem d_M_variable_90 : decode mi_M_variable.2.1 90 = .ok (.bipush 12, 2) := by decide +kernel
theorem d_M_variable_92 : decode mi_M_variable.2.1 92 = .ok (.if_icmp .ne 9, 3) := by decide +kernel
theorem d_M_variable_95 : decode mi_M_variable.2.1 95 = .ok (.ldc2_w 107, 3) := by decide +kernel
theorem d_M_variable_98 : decode mi_M_variable.2.1 98 = .ok (.goto 4, 3) := by decide +kernel
theorem d_M_variable_101 : decode mi_M_variable.2.1 101 = .ok (.lconst 0, 1) := by decide +kernel
theorem d_M_variable_102 : decode mi_M_variable.2.1 102 = .ok (.iload 4, 2) := by decide +kernel
theorem d_M_variable_104 : decode mi_M_variable.2.1 104 = .ok (.invokevirtual 109, 3) := by decide +kernel
theorem d_M_variable_107 : decode mi_M_variable.2.1 107 = .ok (.aload_n 0, 1) := by decide +kernel
theorem d_M_variable_108 : decode mi_M_variable.2.1 108 = .ok (.getfield 24, 3) := by decide +kernel
theorem d_M_variable_111 : decode mi_M_variable.2.1 111 = .ok (.iload_n 3, 1) := by decide +kernel
theorem d_M_variable_112 : decode mi_M_variable.2.1 112 = .ok (.iconst 1, 1) := by decide +kernel
theorem d_M_variable_113 : decode mi_M_variable.2.1 113 = .ok (.iload 4, 2) := by decide +kernel
theorem d_M_variable_115 : decode mi_M_variable.2.1 115 = .ok (.iadd, 1) := by decide +kernel
theorem d_M_variable_116 : decode mi_M_variable.2.1 116 = .ok (.iastore, 1) := by decide +kernel
theorem d_M_variable_117 : decode mi_M_variable.2.1 117 = .ok (.iload_n 3, 1) := by decide +kernel
theorem d_M_variable_118 : decode mi_M_variable.2.1 118 = .ok (.ireturn, 1) := by decide +kernel
theorem d_M_startNumber_0 : decode mi_M_startNumber.2.1 0 = .ok (.iconst 0, 1) := by decide +kernel
theorem d_M_startNumber_1 : decode mi_M_startNumber.2.1 1 = .ok (.istore 5, 2) := by decide +kernel
theorem d_M_startNumber_3 : decode mi_M_startNumber.2.1 3 = .ok (.iload 5, 2) := by decide +kernel
theorem d_M_startNumber_5 : decode mi_M_startNumber.2.1 5 = .ok (.iload 4, 2) := by decide +kernel
theorem d_M_startNumber_7 : decode mi_M_startNumber.2.1 7 = .ok (.if_icmp .ge 30, 3) := by decide +kernel
theorem d_M_startNumber_10 : decode mi_M_startNumber.2.1 10 = .ok (.aload_n 0, 1) := by decide +kernel
theorem d_M_startNumber_11 : decode mi_M_startNumber.2.1 11 = .ok (.getfield 27, 3) := by decide +kernel
theorem d_M_startNumber_14 : decode mi_M_startNumber.2.1 14 = .ok (.iload_n 1, 1) := by decide +kernel
theorem d_M_startNumber_15 : decode mi_M_startNumber.2.1 15 = .ok (.iload 5, 2) := by decide +kernel
theorem d_M_startNumber_17 : decode mi_M_startNumber.2.1 17 = .ok (.iadd, 1) := by decide +kernel
theorem d_M_startNumber_18 : decode mi_M_startNumber.2.1 18 = .ok (.lload_n 2, 1) := by decide +kernel
theorem d_M_startNumber_19 : decode mi_M_startNumber.2.1 19 = .ok (.bipush 8, 2) := by decide +kernel
theorem d_M_startNumber_21 : decode mi_M_startNumber.2.1 21 = .ok (.iload 5, 2) := by decide +kernel
theorem d_M_startNumber_23 : decode mi_M_startNumber.2.1 23 = .ok (.imul, 1) := by decide +kernel
theorem d_M_startNumber_24 : decode mi_M_startNumber.2.1 24 = .ok (.lshr, 1) := by decide +kernel
theorem d_M_startNumber_25 : decode mi_M_startNumber.2.1 25 = .ok (.ldc2_w 105, 3) := by decide +kernel
theorem d_M_startNumber_28 : decode mi_M_startNumber.2.1 28 = .ok (.land, 1) := by decide +kernel
theorem d_M_startNumber_29 : decode mi_M_startNumber.2.1 29 = .ok (.l2i, 1) := by decide +kernel
theorem d_M_startNumber_30 : decode mi_M_startNumber.2.1 30 = .ok (.iastore, 1) := by decide +kernel
theorem d_M_startNumber_31 : decode mi_M_startNumber.2.1 31 = .ok (.iinc 5 1, 3) := by decide +kernel
theorem d_M_startNumber_34 : decode mi_M_startNumber.2.1 34 = .ok (.goto (-31), 3) := by decide +kernel
theorem d_M_startNumber_37 : decode mi_M_startNumber.2.1 37 = .ok (.return_, 1) := by decide +kernel
theorem d_M_poke_0 : decode mi_M_poke.2.1 0 = .ok (.aload_n 0, 1) := by decide +kernel
theorem d_M_poke_1 : decode mi_M_poke.2.1 1 = .ok (.iload_n 1, 1) := by decide +kernel
theorem d_M_poke_2 : decode mi_M_poke.2.1 2 = .ok (.invokevirtual 131, 3) := by decide +kernel
theorem d_M_poke_5 : decode mi_M_poke.2.1 5 = .ok (.ifCond .eq 35, 3) := by decide +kernel
theorem d_M_poke_8 : decode mi_M_poke.2.1 8 = .ok (.aload_n 0, 1) := by decide +kernel
theorem d_M_poke_9 : decode mi_M_poke.2.1 9 = .ok (.getfield 21, 3) := by decide +kernel
theorem d_M_poke_12 : decode mi_M_poke.2.1 12 = .ok (.iload_n 1, 1) := by decide +kernel
theorem d_M_poke_13 : decode mi_M_poke.2.1 13 = .ok (.iaload, 1) := by decide +kernel
theorem d_M_poke_14 : decode mi_M_poke.2.1 14 = .ok (.iconst 1, 1) := by decide +kernel
theorem d_M_poke_15 : decode mi_M_poke.2.1 15 = .ok (.if_icmp .eq 27, 3) := by decide +kernel
theorem d_M_poke_18 : decode mi_M_poke.2.1 18 = .ok (.aload_n 0, 1) := by decide +kernel
theorem d_M_poke_19 : decode mi_M_poke.2.1 19 = .ok (.getfield 21, 3) := by decide +kernel
theorem d_M_poke_22 : decode mi_M_poke.2.1 22 = .ok (.iload_n 1, 1) := by decide +kernel
theorem d_M_poke_23 : decode mi_M_poke.2.1 23 = .ok (.iaload, 1) := by decide +kernel
theorem d_M_poke_24 : decode mi_M_poke.2.1 24 = .ok (.bipush 6, 2) := by decide +kernel
theorem d_M_poke_26 : decode mi_M_poke.2.1 26 = .ok (.if_icmp .eq 16, 3) := by decide +kernel
theorem d_M_poke_29 : decode mi_M_poke.2.1 29 = .ok (.aload_n 0, 1) := by decide +kernel
theorem d_M_poke_30 : decode mi_M_poke.2.1 30 = .ok (.getfield 21, 3) := by decide +kernel
theorem d_M_poke_33 : decode mi_M_poke.2.1 33 = .ok (.iload_n 1, 1) := by decide +kernel
theorem d_M_poke_34 : decode mi_M_poke.2.1 34 = .ok (.iaload, 1) := by decide +kernel
theorem d_M_poke_35 : decode mi_M_poke.2.1 35 = .ok (.bipush 8, 2) := by decide +kernel
theorem d_M_poke_37 : decode mi_M_poke.2.1 37 = .ok (.if_icmp .eq 5, 3) := by decide +kernel
theorem d_M_poke_40 : decode mi_M_poke.2.1 40 = .ok (.iconst 0, 1) := by decide +kernel
theorem d_M_poke_41 : decode mi_M_poke.2.1 41 = .ok (.ireturn, 1) := by decide +kernel
theorem d_M_poke_42 : decode mi_M_poke.2.1 42 = .ok (.aload_n 0, 1) := by decide +kernel
theorem d_M_poke_43 : decode mi_M_poke.2.1 43 = .ok (.getfield 21, 3) := by decide +kernel
theorem d_M_poke_46 : decode mi_M_poke.2.1 46 = .ok (.iload_n 1, 1) := by decide +kernel
theorem d_M_poke_47 : decode mi_M_poke.2.1 47 = .ok (.iaload, 1) := by decide +kernel
theorem d_M_poke_48 : decode mi_M_poke.2.1 48 = .ok (.istore 4, 2) := by decide +kernel
theorem d_M_poke_50 : decode mi_M_poke.2.1 50 = .ok (.iload 4, 2) := by decide +kernel
theorem d_M_poke_52 : decode mi_M_poke.2.1 52 = .ok (.iconst 1, 1) := by decide +kernel
theorem d_M_poke_53 : decode mi_M_poke.2.1 53 = .ok (.if_icmp .ne 7, 3) := by decide +kernel
theorem d_M_poke_56 : decode mi_M_poke.2.1 56 = .ok (.iconst 1, 1) := by decide +kernel
theorem d_M_poke_57 : decode mi_M_poke.2.1 57 = .ok (.goto 16, 3) := by decide +kernel
theorem d_M_poke_60 : decode mi_M_poke.2.1 60 = .ok (.iload 4, 2) := by decide +kernel
theorem d_M_poke_62 : decode mi_M_poke.2.1 62 = .ok (.bipush 6, 2) := by decide +kernel
theorem d_M_poke_64 : decode mi_M_poke.2.1 64 = .ok (.if_icmp .ne 7, 3) := by decide +kernel
theorem d_M_poke_67 : decode mi_M_poke.2.1 67 = .ok (.iconst 4, 1) := by decide +kernel
theorem d_M_poke_68 : decode mi_M_poke.2.1 68 = .ok (.goto 5, 3) := by decide +kernel
theorem d_M_poke_71 : decode mi_M_poke.2.1 71 = .ok (.bipush 8, 2) := by decide +kernel
theorem d_M_poke_73 : decode mi_M_poke.2.1 73 = .ok (.istore 5, 2) := by decide +kernel
theorem d_M_poke_75 : decode mi_M_poke.2.1 75 = .ok (.iload 4, 2) := by decide +kernel
theorem d_M_poke_77 : decode mi_M_poke.2.1 77 = .ok (.iconst 1, 1) := by decide +kernel
theorem d_M_poke_78 : decode mi_M_poke.2.1 78 = .ok (.if_icmp .ne 17, 3) := by decide +kernel
theorem d_M_poke_81 : decode mi_M_poke.2.1 81 = .ok (.lload_n 2, 1) := by decide +kernel
theorem d_M_poke_82 : decode mi_M_poke.2.1 82 = .ok (.lconst 0, 1) := by decide +kernel
theorem d_M_poke_83 : decode mi_M_poke.2.1 83 = .ok (.lcmp, 1) := by decide +kernel
theorem d_M_poke_84 : decode mi_M_poke.2.1 84 = .ok (.ifCond .ne 7, 3) := by decide +kernel
theorem d_M_poke_87 : decode mi_M_poke.2.1 87 = .ok (.lconst 0, 1) := by decide +kernel
theorem d_M_poke_88 : decode mi_M_poke.2.1 88 = .ok (.goto 8, 3) := by decide +kernel
theorem d_M_poke_91 : decode mi_M_poke.2.1 91 = .ok (.lconst 1, 1) := by decide +kernel
theorem d_M_poke_92 : decode mi_M_poke.2.1 92 = .ok (.goto 4, 3) := by decide +kernel
theorem d_M_poke_95 : decode mi_M_poke.2.1 95 = .ok (.lload_n 2, 1) := by decide +kernel
theorem d_M_poke_96 : decode mi_M_poke.2.1 96 = .ok (.lstore 6, 2) := by decide +kernel
theorem d_M_poke_98 : decode mi_M_poke.2.1 98 = .ok (.aload_n 0, 1) := by decide +kernel
theorem d_M_poke_99 : decode mi_M_poke.2.1 99 = .ok (.getfield 63, 3) := by decide +kernel
theorem d_M_poke_102 : decode mi_M_poke.2.1 102 = .ok (.iconst 0, 1) := by decide +kernel
theorem d_M_poke_103 : decode mi_M_poke.2.1 103 = .ok (.iload 4, 2) := by decide +kernel
theorem d_M_poke_105 : decode mi_M_poke.2.1 105 = .ok (.iastore, 1) := by decide +kernel
theorem d_M_poke_106 : decode mi_M_poke.2.1 106 = .ok (.iconst 0, 1) := by decide +kernel
theorem d_M_poke_107 : decode mi_M_poke.2.1 107 = .ok (.istore 8, 2) := by decide +kernel
theorem d_M_poke_109 : decode mi_M_poke.2.1 109 = .ok (.iload 8, 2) := by decide +kernel
theorem d_M_poke_111 : decode mi_M_poke.2.1 111 = .ok (.iload 5, 2) := by decide +kernel
theorem d_M_poke_113 : decode mi_M_poke.2.1 113 = .ok (.if_icmp .ge 31, 3) := by decide +kernel
theorem d_M_poke_116 : decode mi_M_poke.2.1 116 = .ok (.aload_n 0, 1) := by decide +kernel
theorem d_M_poke_117 : decode mi_M_poke.2.1 117 = .ok (.getfield 63, 3) := by decide +kernel
theorem d_M_poke_120 : decode mi_M_poke.2.1 120 = .ok (.iconst 1, 1) := by decide +kernel
theorem d_M_poke_121 : decode mi_M_poke.2.1 121 = .ok (.iload 8, 2) := by decide +kernel
theorem d_M_poke_123 : decode mi_M_poke.2.1 123 = .ok (.iadd, 1) := by decide +kernel
theorem d_M_poke_124 : decode mi_M_poke.2.1 124 = .ok (.lload 6, 2) := by decide +kernel
theorem d_M_poke_126 : decode mi_M_poke.2.1 126 = .ok (.bipush 8, 2) := by decide +kernel
theorem d_M_poke_128 : decode mi_M_poke.2.1 128 = .ok (.iload 8, 2) := by decide +kernel
theorem d_M_poke_130 : decode mi_M_poke.2.1 130 = .ok (.imul, 1) := by decide +kernel
theorem d_M_poke_131 : decode mi_M_poke.2.1 131 = .ok (.lshr, 1) := by decide +kernel
theorem d_M_poke_132 : decode mi_M_poke.2.1 132 = .ok (.ldc2_w 105, 3) := by decide +kernel
theorem d_M_poke_135 : decode mi_M_poke.2.1 135 = .ok (.land, 1) := by decide +kernel
theorem d_M_poke_136 : decode mi_M_poke.2.1 136 = .ok (.l2i, 1) := by decide +kernel
theorem d_M_poke_137 : decode mi_M_poke.2.1 137 = .ok (.iastore, 1) := by decide +kernel
theorem d_M_poke_138 : decode mi_M_poke.2.1 138 = .ok (.iinc 8 1, 3) := by decide +kernel
theorem d_M_poke_141 : decode mi_M_poke.2.1 141 = .ok (.goto (-32), 3) := by decide +kernel
theorem d_M_poke_144 : decode mi_M_poke.2.1 144 = .ok (.aload_n 0, 1) := by decide +kernel
theorem d_M_poke_145 : decode mi_M_poke.2.1 145 = .ok (.iconst 1, 1) := by decide +kernel
theorem d_M_poke_146 : decode mi_M_poke.2.1 146 = .ok (.iload 5, 2) := by decide +kernel
theorem d_M_poke_148 : decode mi_M_poke.2.1 148 = .ok (.iadd, 1) := by decide +kernel
theorem d_M_poke_149 : decode mi_M_poke.2.1 149 = .ok (.putfield 125, 3) := by decide +kernel
theorem d_M_poke_152 : decode mi_M_poke.2.1 152 = .ok (.aload_n 0, 1) := by decide +kernel
theorem d_M_poke_153 : decode mi_M_poke.2.1 153 = .ok (.iload_n 1, 1) := by decide +kernel
theorem d_M_poke_154 : decode mi_M_poke.2.1 154 = .ok (.invokevirtual 134, 3) := by decide +kernel
theorem d_M_poke_157 : decode mi_M_poke.2.1 157 = .ok (.ireturn, 1) := by decide +kernel
theorem d_M_isVariable_0 : decode mi_M_isVariable.2.1 0 = .ok (.aload_n 0, 1) := by decide +kernel
theorem d_M_isVariable_1 : decode mi_M_isVariable.2.1 1 = .ok (.iload_n 1, 1) := by decide +kernel
theorem d_M_isVariable_2 : decode mi_M_isVariable.2.1 2 = .ok (.invokevirtual 97, 3) := by decide +kernel
theorem d_M_isVariable_5 : decode mi_M_isVariable.2.1 5 = .ok (.ifCond .eq 16, 3) := by decide +kernel
theorem d_M_isVariable_8 : decode mi_M_isVariable.2.1 8 = .ok (.aload_n 0, 1) := by decide +kernel
theorem d_M_isVariable_9 : decode mi_M_isVariable.2.1 9 = .ok (.getfield 17, 3) := by decide +kernel
theorem d_M_isVariable_12 : decode mi_M_isVariable.2.1 12 = .ok (.iload_n 1, 1) := by decide +kernel
theorem d_M_isVariable_13 : decode mi_M_isVariable.2.1 13 = .ok (.baload, 1) := by decide +kernel
theorem d_M_isVariable_14 : decode mi_M_isVariable.2.1 14 = .ok (.ifCond .eq 7, 3) := by decide +kernel
theorem d_M_isVariable_17 : decode mi_M_isVariable.2.1 17 = .ok (.iconst 1, 1) := by decide +kernel
theorem d_M_isVariable_18 : decode mi_M_isVariable.2.1 18 = .ok (.goto 4, 3) := by decide +kernel
theorem d_M_isVariable_21 : decode mi_M_isVariable.2.1 21 = .ok (.iconst 0, 1) := by decide +kernel
theorem d_M_isVariable_22 : decode mi_M_isVariable.2.1 22 = .ok (.ireturn, 1) := by decide +kernel
theorem d_M_become_0 : decode mi_M_become.2.1 0 = .ok (.aload_n 0, 1) := by decide +kernel
theorem d_M_become_1 : decode mi_M_become.2.1 1 = .ok (.getfield 24, 3) := by decide +kernel
theorem d_M_become_4 : decode mi_M_become.2.1 4 = .ok (.iload_n 1, 1) := by decide +kernel
theorem d_M_become_5 : decode mi_M_become.2.1 5 = .ok (.iaload, 1) := by decide +kernel
theorem d_M_become_6 : decode mi_M_become.2.1 6 = .ok (.aload_n 0, 1) := by decide +kernel
theorem d_M_become_7 : decode mi_M_become.2.1 7 = .ok (.getfield 125, 3) := by decide +kernel
theorem d_M_become_10 : decode mi_M_become.2.1 10 = .ok (.if_icmp .ne 7, 3) := by decide +kernel
theorem d_M_become_13 : decode mi_M_become.2.1 13 = .ok (.iconst 1, 1) := by decide +kernel
theorem d_M_become_14 : decode mi_M_become.2.1 14 = .ok (.goto 4, 3) := by decide +kernel
theorem d_M_become_17 : decode mi_M_become.2.1 17 = .ok (.iconst 0, 1) := by decide +kernel
theorem d_M_become_18 : decode mi_M_become.2.1 18 = .ok (.istore_n 2, 1) := by decide +kernel
theorem d_M_become_19 : decode mi_M_become.2.1 19 = .ok (.iconst 0, 1) := by decide +kernel
theorem d_M_become_20 : decode mi_M_become.2.1 20 = .ok (.istore_n 3, 1) := by decide +kernel
theorem d_M_become_21 : decode mi_M_become.2.1 21 = .ok (.iload_n 3, 1) := by decide +kernel
theorem d_M_become_22 : decode mi_M_become.2.1 22 = .ok (.aload_n 0, 1) := by decide +kernel
theorem d_M_become_23 : decode mi_M_become.2.1 23 = .ok (.getfield 125, 3) := by decide +kernel
theorem d_M_become_26 : decode mi_M_become.2.1 26 = .ok (.if_icmp .ge 39, 3) := by decide +kernel
theorem d_M_become_29 : decode mi_M_become.2.1 29 = .ok (.iload_n 2, 1) := by decide +kernel
theorem d_M_become_30 : decode mi_M_become.2.1 30 = .ok (.ifCond .eq 27, 3) := by decide +kernel
theorem d_M_become_33 : decode mi_M_become.2.1 33 = .ok (.aload_n 0, 1) := by decide +kernel
theorem d_M_become_34 : decode mi_M_become.2.1 34 = .ok (.getfield 27, 3) := by decide +kernel
theorem d_M_become_37 : decode mi_M_become.2.1 37 = .ok (.bipush 64, 2) := by decide +kernel
theorem d_M_become_39 : decode mi_M_become.2.1 39 = .ok (.iload_n 1, 1) := by decide +kernel
theorem d_M_become_40 : decode mi_M_become.2.1 40 = .ok (.imul, 1) := by decide +kernel
theorem d_M_become_41 : decode mi_M_become.2.1 41 = .ok (.iload_n 3, 1) := by decide +kernel
theorem d_M_become_42 : decode mi_M_become.2.1 42 = .ok (.iadd, 1) := by decide +kernel
theorem d_M_become_43 : decode mi_M_become.2.1 43 = .ok (.iaload, 1) := by decide +kernel
theorem d_M_become_44 : decode mi_M_become.2.1 44 = .ok (.aload_n 0, 1) := by decide +kernel
theorem d_M_become_45 : decode mi_M_become.2.1 45 = .ok (.getfield 63, 3) := by decide +kernel
theorem d_M_become_48 : decode mi_M_become.2.1 48 = .ok (.iload_n 3, 1) := by decide +kernel
theorem d_M_become_49 : decode mi_M_become.2.1 49 = .ok (.iaload, 1) := by decide +kernel
theorem d_M_become_50 : decode mi_M_become.2.1 50 = .ok (.if_icmp .ne 7, 3) := by decide +kernel
theorem d_M_become_53 : decode mi_M_become.2.1 53 = .ok (.iconst 1, 1) := by decide +kernel
theorem d_M_become_54 : decode mi_M_become.2.1 54 = .ok (.goto 4, 3) := by decide +kernel
theorem d_M_become_57 : decode mi_M_become.2.1 57 = .ok (.iconst 0, 1) := by decide +kernel
theorem d_M_become_58 : decode mi_M_become.2.1 58 = .ok (.istore_n 2, 1) := by decide +kernel
theorem d_M_become_59 : decode mi_M_become.2.1 59 = .ok (.iinc 3 1, 3) := by decide +kernel
theorem d_M_become_62 : decode mi_M_become.2.1 62 = .ok (.goto (-41), 3) := by decide +kernel
theorem d_M_become_65 : decode mi_M_become.2.1 65 = .ok (.iload_n 2, 1) := by decide +kernel
theorem d_M_become_66 : decode mi_M_become.2.1 66 = .ok (.ifCond .eq 5, 3) := by decide +kernel
theorem d_M_become_69 : decode mi_M_become.2.1 69 = .ok (.iconst 0, 1) := by decide +kernel
theorem d_M_become_70 : decode mi_M_become.2.1 70 = .ok (.ireturn, 1) := by decide +kernel
theorem d_M_become_71 : decode mi_M_become.2.1 71 = .ok (.aload_n 0, 1) := by decide +kernel
theorem d_M_become_72 : decode mi_M_become.2.1 72 = .ok (.getfield 24, 3) := by decide +kernel
theorem d_M_become_75 : decode mi_M_become.2.1 75 = .ok (.iload_n 1, 1) := by decide +kernel
theorem d_M_become_76 : decode mi_M_become.2.1 76 = .ok (.aload_n 0, 1) := by decide +kernel
theorem d_M_become_77 : decode mi_M_become.2.1 77 = .ok (.getfield 125, 3) := by decide +kernel
theorem d_M_become_80 : decode mi_M_become.2.1 80 = .ok (.iastore, 1) := by decide +kernel
theorem d_M_become_81 : decode mi_M_become.2.1 81 = .ok (.iconst 0, 1) := by decide +kernel
theorem d_M_become_82 : decode mi_M_become.2.1 82 = .ok (.istore_n 3, 1) := by decide +kernel
theorem d_M_become_83 : decode mi_M_become.2.1 83 = .ok (.iload_n 3, 1) := by decide +kernel
theorem d_M_become_84 : decode mi_M_become.2.1 84 = .ok (.aload_n 0, 1) := by decide +kernel
theorem d_M_become_85 : decode mi_M_become.2.1 85 = .ok (.getfield 125, 3) := by decide +kernel
theorem d_M_become_88 : decode mi_M_become.2.1 88 = .ok (.if_icmp .ge 26, 3) := by decide +kernel
theorem d_M_become_91 : decode mi_M_become.2.1 91 = .ok (.aload_n 0, 1) := by decide +kernel
theorem d_M_become_92 : decode mi_M_become.2.1 92 = .ok (.getfield 27, 3) := by decide +kernel
theorem d_M_become_95 : decode mi_M_become.2.1 95 = .ok (.bipush 64, 2) := by decide +kernel
theorem d_M_become_97 : decode mi_M_become.2.1 97 = .ok (.iload_n 1, 1) := by decide +kernel
theorem d_M_become_98 : decode mi_M_become.2.1 98 = .ok (.imul, 1) := by decide +kernel
theorem d_M_become_99 : decode mi_M_become.2.1 99 = .ok (.iload_n 3, 1) := by decide +kernel
theorem d_M_become_100 : decode mi_M_become.2.1 100 = .ok (.iadd, 1) := by decide +kernel
theorem d_M_become_101 : decode mi_M_become.2.1 101 = .ok (.aload_n 0, 1) := by decide +kernel
theorem d_M_become_102 : decode mi_M_become.2.1 102 = .ok (.getfield 63, 3) := by decide +kernel
theorem d_M_become_105 : decode mi_M_become.2.1 105 = .ok (.iload_n 3, 1) := by decide +kernel
theorem d_M_become_106 : decode mi_M_become.2.1 106 = .ok (.iaload, 1) := by decide +kernel
theorem d_M_become_107 : decode mi_M_become.2.1 107 = .ok (.iastore, 1) := by decide +kernel
theorem d_M_become_108 : decode mi_M_become.2.1 108 = .ok (.iinc 3 1, 3) := by decide +kernel
theorem d_M_become_111 : decode mi_M_become.2.1 111 = .ok (.goto (-28), 3) := by decide +kernel
theorem d_M_become_114 : decode mi_M_become.2.1 114 = .ok (.iconst 0, 1) := by decide +kernel
theorem d_M_become_115 : decode mi_M_become.2.1 115 = .ok (.istore_n 3, 1) := by decide +kernel
theorem d_M_become_116 : decode mi_M_become.2.1 116 = .ok (.iload_n 3, 1) := by decide +kernel
theorem d_M_become_117 : decode mi_M_become.2.1 117 = .ok (.aload_n 0, 1) := by decide +kernel
theorem d_M_become_118 : decode mi_M_become.2.1 118 = .ok (.getfield 82, 3) := by decide +kernel
theorem d_M_become_121 : decode mi_M_become.2.1 121 = .ok (.if_icmp .ge 25, 3) := by decide +kernel
theorem d_M_become_124 : decode mi_M_become.2.1 124 = .ok (.aload_n 0, 1) := by decide +kernel
theorem d_M_become_125 : decode mi_M_become.2.1 125 = .ok (.getfield 30, 3) := by decide +kernel
theorem d_M_become_128 : decode mi_M_become.2.1 128 = .ok (.iload_n 3, 1) := by decide +kernel
theorem d_M_become_129 : decode mi_M_become.2.1 129 = .ok (.iaload, 1) := by decide +kernel
theorem d_M_become_130 : decode mi_M_become.2.1 130 = .ok (.iload_n 1, 1) := by decide +kernel
theorem d_M_become_131 : decode mi_M_become.2.1 131 = .ok (.if_icmp .ne 9, 3) := by decide +kernel
theorem d_M_become_134 : decode mi_M_become.2.1 134 = .ok (.aload_n 0, 1) := by decide +kernel
theorem d_M_become_135 : decode mi_M_become.2.1 135 = .ok (.iload_n 3, 1) := by decide +kernel
theorem d_M_become_136 : decode mi_M_become.2.1 136 = .ok (.iload_n 1, 1) := by decide +kernel
theorem d_M_become_137 : decode mi_M_become.2.1 137 = .ok (.invokevirtual 128, 3) := by decide +kernel
theorem d_M_become_140 : decode mi_M_become.2.1 140 = .ok (.iinc 3 1, 3) := by decide +kernel
theorem d_M_become_143 : decode mi_M_become.2.1 143 = .ok (.goto (-27), 3) := by decide +kernel
theorem d_M_become_146 : decode mi_M_become.2.1 146 = .ok (.iconst 1, 1) := by decide +kernel
theorem d_M_become_147 : decode mi_M_become.2.1 147 = .ok (.ireturn, 1) := by decide +kernel
theorem d_M_tell_0 : decode mi_M_tell.2.1 0 = .ok (.aload_n 0, 1) := by decide +kernel
theorem d_M_tell_1 : decode mi_M_tell.2.1 1 = .ok (.getfield 39, 3) := by decide +kernel
theorem d_M_tell_4 : decode mi_M_tell.2.1 4 = .ok (.iload_n 1, 1) := by decide +kernel
theorem d_M_tell_5 : decode mi_M_tell.2.1 5 = .ok (.iaload, 1) := by decide +kernel
theorem d_M_tell_6 : decode mi_M_tell.2.1 6 = .ok (.aload_n 0, 1) := by decide +kernel
theorem d_M_tell_7 : decode mi_M_tell.2.1 7 = .ok (.getfield 33, 3) := by decide +kernel
theorem d_M_tell_10 : decode mi_M_tell.2.1 10 = .ok (.iload_n 1, 1) := by decide +kernel
theorem d_M_tell_11 : decode mi_M_tell.2.1 11 = .ok (.iaload, 1) := by decide +kernel
theorem d_M_tell_12 : decode mi_M_tell.2.1 12 = .ok (.if_icmp .ne 7, 3) := by decide +kernel
theorem d_M_tell_15 : decode mi_M_tell.2.1 15 = .ok (.iconst 1, 1) := by decide +kernel
theorem d_M_tell_16 : decode mi_M_tell.2.1 16 = .ok (.goto 4, 3) := by decide +kernel
theorem d_M_tell_19 : decode mi_M_tell.2.1 19 = .ok (.iconst 0, 1) := by decide +kernel
theorem d_M_tell_20 : decode mi_M_tell.2.1 20 = .ok (.istore_n 3, 1) := by decide +kernel
theorem d_M_tell_21 : decode mi_M_tell.2.1 21 = .ok (.iload_n 3, 1) := by decide +kernel
theorem d_M_tell_22 : decode mi_M_tell.2.1 22 = .ok (.ifCond .eq 17, 3) := by decide +kernel
theorem d_M_tell_25 : decode mi_M_tell.2.1 25 = .ok (.aload_n 0, 1) := by decide +kernel
theorem d_M_tell_26 : decode mi_M_tell.2.1 26 = .ok (.getfield 33, 3) := by decide +kernel
theorem d_M_tell_29 : decode mi_M_tell.2.1 29 = .ok (.iload_n 1, 1) := by decide +kernel
theorem d_M_tell_30 : decode mi_M_tell.2.1 30 = .ok (.iaload, 1) := by decide +kernel
theorem d_M_tell_31 : decode mi_M_tell.2.1 31 = .ok (.iconst 1, 1) := by decide +kernel
theorem d_M_tell_32 : decode mi_M_tell.2.1 32 = .ok (.if_icmp .le 7, 3) := by decide +kernel
theorem d_M_tell_35 : decode mi_M_tell.2.1 35 = .ok (.iconst 1, 1) := by decide +kernel
theorem d_M_tell_36 : decode mi_M_tell.2.1 36 = .ok (.goto 4, 3) := by decide +kernel
theorem d_M_tell_39 : decode mi_M_tell.2.1 39 = .ok (.iconst 0, 1) := by decide +kernel
theorem d_M_tell_40 : decode mi_M_tell.2.1 40 = .ok (.istore 4, 2) := by decide +kernel
theorem d_M_tell_42 : decode mi_M_tell.2.1 42 = .ok (.iload_n 3, 1) := by decide +kernel
theorem d_M_tell_43 : decode mi_M_tell.2.1 43 = .ok (.ifCond .eq 41, 3) := by decide +kernel
theorem d_M_tell_46 : decode mi_M_tell.2.1 46 = .ok (.aload_n 0, 1) := by decide +kernel
theorem d_M_tell_47 : decode mi_M_tell.2.1 47 = .ok (.getfield 36, 3) := by decide +kernel
theorem d_M_tell_50 : decode mi_M_tell.2.1 50 = .ok (.iload_n 1, 1) := by decide +kernel
theorem d_M_tell_51 : decode mi_M_tell.2.1 51 = .ok (.baload, 1) := by decide +kernel
theorem d_M_tell_52 : decode mi_M_tell.2.1 52 = .ok (.ifCond .eq 32, 3) := by decide +kernel
theorem d_M_tell_55 : decode mi_M_tell.2.1 55 = .ok (.aload_n 0, 1) := by decide +kernel
theorem d_M_tell_56 : decode mi_M_tell.2.1 56 = .ok (.iload_n 1, 1) := by decide +kernel
theorem d_M_tell_57 : decode mi_M_tell.2.1 57 = .ok (.invokevirtual 117, 3) := by decide +kernel
theorem d_M_tell_60 : decode mi_M_tell.2.1 60 = .ok (.iload 4, 2) := by decide +kernel
theorem d_M_tell_62 : decode mi_M_tell.2.1 62 = .ok (.ifCond .eq 12, 3) := by decide +kernel
theorem d_M_tell_65 : decode mi_M_tell.2.1 65 = .ok (.aload_n 0, 1) := by decide +kernel
theorem d_M_tell_66 : decode mi_M_tell.2.1 66 = .ok (.getfield 45, 3) := by decide +kernel
theorem d_M_tell_69 : decode mi_M_tell.2.1 69 = .ok (.iconst 4, 1) := by decide +kernel
theorem d_M_tell_70 : decode mi_M_tell.2.1 70 = .ok (.iload_n 1, 1) := by decide +kernel
theorem d_M_tell_71 : decode mi_M_tell.2.1 71 = .ok (.imul, 1) := by decide +kernel
theorem d_M_tell_72 : decode mi_M_tell.2.1 72 = .ok (.iconst 1, 1) := by decide +kernel
theorem d_M_tell_73 : decode mi_M_tell.2.1 73 = .ok (.iastore, 1) := by decide +kernel
theorem d_M_tell_74 : decode mi_M_tell.2.1 74 = .ok (.aload_n 0, 1) := by decide +kernel
theorem d_M_tell_75 : decode mi_M_tell.2.1 75 = .ok (.iload_n 1, 1) := by decide +kernel
theorem d_M_tell_76 : decode mi_M_tell.2.1 76 = .ok (.iload_n 2, 1) := by decide +kernel
theorem d_M_tell_77 : decode mi_M_tell.2.1 77 = .ok (.iconst 0, 1) := by decide +kernel
theorem d_M_tell_78 : decode mi_M_tell.2.1 78 = .ok (.invokevirtual 121, 3) := by decide +kernel
theorem d_M_tell_81 : decode mi_M_tell.2.1 81 = .ok (.goto 46, 3) := by decide +kernel
theorem d_M_tell_84 : decode mi_M_tell.2.1 84 = .ok (.aload_n 0, 1) := by decide +kernel
theorem d_M_tell_85 : decode mi_M_tell.2.1 85 = .ok (.getfield 39, 3) := by decide +kernel
theorem d_M_tell_88 : decode mi_M_tell.2.1 88 = .ok (.iload_n 1, 1) := by decide +kernel
theorem d_M_tell_89 : decode mi_M_tell.2.1 89 = .ok (.iload_n 3, 1) := by decide +kernel
theorem d_M_tell_90 : decode mi_M_tell.2.1 90 = .ok (.ifCond .eq 14, 3) := by decide +kernel
theorem d_M_tell_93 : decode mi_M_tell.2.1 93 = .ok (.aload_n 0, 1) := by decide +kernel
theorem d_M_tell_94 : decode mi_M_tell.2.1 94 = .ok (.getfield 39, 3) := by decide +kernel
theorem d_M_tell_97 : decode mi_M_tell.2.1 97 = .ok (.iload_n 1, 1) := by decide +kernel
theorem d_M_tell_98 : decode mi_M_tell.2.1 98 = .ok (.iaload, 1) := by decide +kernel
theorem d_M_tell_99 : decode mi_M_tell.2.1 99 = .ok (.iconst 1, 1) := by decide +kernel
theorem d_M_tell_100 : decode mi_M_tell.2.1 100 = .ok (.isub, 1) := by decide +kernel
theorem d_M_tell_101 : decode mi_M_tell.2.1 101 = .ok (.goto 9, 3) := by decide +kernel
theorem d_M_tell_104 : decode mi_M_tell.2.1 104 = .ok (.aload_n 0, 1) := by decide +kernel
theorem d_M_tell_105 : decode mi_M_tell.2.1 105 = .ok (.getfield 39, 3) := by decide +kernel
theorem d_M_tell_108 : decode mi_M_tell.2.1 108 = .ok (.iload_n 1, 1) := by decide +kernel
theorem d_M_tell_109 : decode mi_M_tell.2.1 109 = .ok (.iaload, 1) := by decide +kernel
theorem d_M_tell_110 : decode mi_M_tell.2.1 110 = .ok (.iastore, 1) := by decide +kernel
theorem d_M_tell_111 : decode mi_M_tell.2.1 111 = .ok (.aload_n 0, 1) := by decide +kernel
theorem d_M_tell_112 : decode mi_M_tell.2.1 112 = .ok (.iload_n 1, 1) := by decide +kernel
theorem d_M_tell_113 : decode mi_M_tell.2.1 113 = .ok (.iload_n 2, 1) := by decide +kernel
theorem d_M_tell_114 : decode mi_M_tell.2.1 114 = .ok (.iload 4, 2) := by decide +kernel
theorem d_M_tell_116 : decode mi_M_tell.2.1 116 = .ok (.ifCond .eq 7, 3) := by decide +kernel
theorem d_M_tell_119 : decode mi_M_tell.2.1 119 = .ok (.iconst 1, 1) := by decide +kernel
theorem d_M_tell_120 : decode mi_M_tell.2.1 120 = .ok (.goto 4, 3) := by decide +kernel
theorem d_M_tell_123 : decode mi_M_tell.2.1 123 = .ok (.iconst 0, 1) := by decide +kernel
theorem d_M_tell_124 : decode mi_M_tell.2.1 124 = .ok (.invokevirtual 121, 3) := by decide +kernel
theorem d_M_tell_127 : decode mi_M_tell.2.1 127 = .ok (.return_, 1) := by decide +kernel
theorem d_M_dropFirst_0 : decode mi_M_dropFirst.2.1 0 = .ok (.iconst 1, 1) := by decide +kernel
theorem d_M_dropFirst_1 : decode mi_M_dropFirst.2.1 1 = .ok (.istore_n 2, 1) := by decide +kernel
theorem d_M_dropFirst_2 : decode mi_M_dropFirst.2.1 2 = .ok (.iload_n 2, 1) := by decide +kernel
theorem d_M_dropFirst_3 : decode mi_M_dropFirst.2.1 3 = .ok (.aload_n 0, 1) := by decide +kernel
theorem d_M_dropFirst_4 : decode mi_M_dropFirst.2.1 4 = .ok (.getfield 39, 3) := by decide +kernel
theorem d_M_dropFirst_7 : decode mi_M_dropFirst.2.1 7 = .ok (.iload_n 1, 1) := by decide +kernel
theorem d_M_dropFirst_8 : decode mi_M_dropFirst.2.1 8 = .ok (.iaload, 1) := by decide +kernel
theorem d_M_dropFirst_9 : decode mi_M_dropFirst.2.1 9 = .ok (.if_icmp .ge 25, 3) := by decide +kernel
theorem d_M_dropFirst_12 : decode mi_M_dropFirst.2.1 12 = .ok (.aload_n 0, 1) := by decide +kernel
theorem d_M_dropFirst_13 : decode mi_M_dropFirst.2.1 13 = .ok (.iconst 4, 1) := by decide +kernel
theorem d_M_dropFirst_14 : decode mi_M_dropFirst.2.1 14 = .ok (.iload_n 1, 1) := by decide +kernel
theorem d_M_dropFirst_15 : decode mi_M_dropFirst.2.1 15 = .ok (.imul, 1) := by decide +kernel
theorem d_M_dropFirst_16 : decode mi_M_dropFirst.2.1 16 = .ok (.iload_n 2, 1) := by decide +kernel
theorem d_M_dropFirst_17 : decode mi_M_dropFirst.2.1 17 = .ok (.iadd, 1) := by decide +kernel
theorem d_M_dropFirst_18 : decode mi_M_dropFirst.2.1 18 = .ok (.iconst 4, 1) := by decide +kernel
theorem d_M_dropFirst_19 : decode mi_M_dropFirst.2.1 19 = .ok (.iload_n 1, 1) := by decide +kernel
theorem d_M_dropFirst_20 : decode mi_M_dropFirst.2.1 20 = .ok (.imul, 1) := by decide +kernel
theorem d_M_dropFirst_21 : decode mi_M_dropFirst.2.1 21 = .ok (.iload_n 2, 1) := by decide +kernel
theorem d_M_dropFirst_22 : decode mi_M_dropFirst.2.1 22 = .ok (.iadd, 1) := by decide +kernel
theorem d_M_dropFirst_23 : decode mi_M_dropFirst.2.1 23 = .ok (.iconst 1, 1) := by decide +kernel
theorem d_M_dropFirst_24 : decode mi_M_dropFirst.2.1 24 = .ok (.isub, 1) := by decide +kernel
theorem d_M_dropFirst_25 : decode mi_M_dropFirst.2.1 25 = .ok (.invokevirtual 113, 3) := by decide +kernel
theorem d_M_dropFirst_28 : decode mi_M_dropFirst.2.1 28 = .ok (.iinc 2 1, 3) := by decide +kernel
theorem d_M_dropFirst_31 : decode mi_M_dropFirst.2.1 31 = .ok (.goto (-29), 3) := by decide +kernel
theorem d_M_dropFirst_34 : decode mi_M_dropFirst.2.1 34 = .ok (.aload_n 0, 1) := by decide +kernel
theorem d_M_dropFirst_35 : decode mi_M_dropFirst.2.1 35 = .ok (.getfield 39, 3) := by decide +kernel
theorem d_M_dropFirst_38 : decode mi_M_dropFirst.2.1 38 = .ok (.iload_n 1, 1) := by decide +kernel
theorem d_M_dropFirst_39 : decode mi_M_dropFirst.2.1 39 = .ok (.dup2, 1) := by decide +kernel
theorem d_M_dropFirst_40 : decode mi_M_dropFirst.2.1 40 = .ok (.iaload, 1) := by decide +kernel
theorem d_M_dropFirst_41 : decode mi_M_dropFirst.2.1 41 = .ok (.iconst 1, 1) := by decide +kernel
theorem d_M_dropFirst_42 : decode mi_M_dropFirst.2.1 42 = .ok (.isub, 1) := by decide +kernel
theorem d_M_dropFirst_43 : decode mi_M_dropFirst.2.1 43 = .ok (.iastore, 1) := by decide +kernel
theorem d_M_dropFirst_44 : decode mi_M_dropFirst.2.1 44 = .ok (.return_, 1) := by decide +kernel
theorem d_M_copyNotice_0 : decode mi_M_copyNotice.2.1 0 = .ok (.aload_n 0, 1) := by decide +kernel
theorem d_M_copyNotice_1 : decode mi_M_copyNotice.2.1 1 = .ok (.getfield 42, 3) := by decide +kernel
theorem d_M_copyNotice_4 : decode mi_M_copyNotice.2.1 4 = .ok (.iload_n 2, 1) := by decide +kernel
theorem d_M_copyNotice_5 : decode mi_M_copyNotice.2.1 5 = .ok (.aload_n 0, 1) := by decide +kernel
theorem d_M_copyNotice_6 : decode mi_M_copyNotice.2.1 6 = .ok (.getfield 42, 3) := by decide +kernel
theorem d_M_copyNotice_9 : decode mi_M_copyNotice.2.1 9 = .ok (.iload_n 1, 1) := by decide +kernel
theorem d_M_copyNotice_10 : decode mi_M_copyNotice.2.1 10 = .ok (.iaload, 1) := by decide +kernel
theorem d_M_copyNotice_11 : decode mi_M_copyNotice.2.1 11 = .ok (.iastore, 1) := by decide +kernel
theorem d_M_copyNotice_12 : decode mi_M_copyNotice.2.1 12 = .ok (.aload_n 0, 1) := by decide +kernel
theorem d_M_copyNotice_13 : decode mi_M_copyNotice.2.1 13 = .ok (.getfield 45, 3) := by decide +kernel
theorem d_M_copyNotice_16 : decode mi_M_copyNotice.2.1 16 = .ok (.iload_n 2, 1) := by decide +kernel
theorem d_M_copyNotice_17 : decode mi_M_copyNotice.2.1 17 = .ok (.aload_n 0, 1) := by decide +kernel
theorem d_M_copyNotice_18 : decode mi_M_copyNotice.2.1 18 = .ok (.getfield 45, 3) := by decide +kernel
theorem d_M_copyNotice_21 : decode mi_M_copyNotice.2.1 21 = .ok (.iload_n 1, 1) := by decide +kernel
theorem d_M_copyNotice_22 : decode mi_M_copyNotice.2.1 22 = .ok (.iaload, 1) := by decide +kernel
theorem d_M_copyNotice_23 : decode mi_M_copyNotice.2.1 23 = .ok (.iastore, 1) := by decide +kernel
theorem d_M_copyNotice_24 : decode mi_M_copyNotice.2.1 24 = .ok (.iconst 0, 1) := by decide +kernel
theorem d_M_copyNotice_25 : decode mi_M_copyNotice.2.1 25 = .ok (.istore_n 3, 1) := by decide +kernel
theorem d_M_copyNotice_26 : decode mi_M_copyNotice.2.1 26 = .ok (.iload_n 3, 1) := by decide +kernel
theorem d_M_copyNotice_27 : decode mi_M_copyNotice.2.1 27 = .ok (.bipush 64, 2) := by decide +kernel
theorem d_M_copyNotice_29 : decode mi_M_copyNotice.2.1 29 = .ok (.if_icmp .ge 31, 3) := by decide +kernel
theorem d_M_copyNotice_32 : decode mi_M_copyNotice.2.1 32 = .ok (.aload_n 0, 1) := by decide +kernel
theorem d_M_copyNotice_33 : decode mi_M_copyNotice.2.1 33 = .ok (.getfield 48, 3) := by decide +kernel
theorem d_M_copyNotice_36 : decode mi_M_copyNotice.2.1 36 = .ok (.bipush 64, 2) := by decide +kernel
theorem d_M_copyNotice_38 : decode mi_M_copyNotice.2.1 38 = .ok (.iload_n 2, 1) := by decide +kernel
theorem d_M_copyNotice_39 : decode mi_M_copyNotice.2.1 39 = .ok (.imul, 1) := by decide +kernel
theorem d_M_copyNotice_40 : decode mi_M_copyNotice.2.1 40 = .ok (.iload_n 3, 1) := by decide +kernel
theorem d_M_copyNotice_41 : decode mi_M_copyNotice.2.1 41 = .ok (.iadd, 1) := by decide +kernel
theorem d_M_copyNotice_42 : decode mi_M_copyNotice.2.1 42 = .ok (.aload_n 0, 1) := by decide +kernel
theorem d_M_copyNotice_43 : decode mi_M_copyNotice.2.1 43 = .ok (.getfield 48, 3) := by decide +kernel
theorem d_M_copyNotice_46 : decode mi_M_copyNotice.2.1 46 = .ok (.bipush 64, 2) := by decide +kernel
theorem d_M_copyNotice_48 : decode mi_M_copyNotice.2.1 48 = .ok (.iload_n 1, 1) := by decide +kernel
theorem d_M_copyNotice_49 : decode mi_M_copyNotice.2.1 49 = .ok (.imul, 1) := by decide +kernel
theorem d_M_copyNotice_50 : decode mi_M_copyNotice.2.1 50 = .ok (.iload_n 3, 1) := by decide +kernel
theorem d_M_copyNotice_51 : decode mi_M_copyNotice.2.1 51 = .ok (.iadd, 1) := by decide +kernel
theorem d_M_copyNotice_52 : decode mi_M_copyNotice.2.1 52 = .ok (.iaload, 1) := by decide +kernel
theorem d_M_copyNotice_53 : decode mi_M_copyNotice.2.1 53 = .ok (.iastore, 1) := by decide +kernel
theorem d_M_copyNotice_54 : decode mi_M_copyNotice.2.1 54 = .ok (.iinc 3 1, 3) := by decide +kernel
theorem d_M_copyNotice_57 : decode mi_M_copyNotice.2.1 57 = .ok (.goto (-31), 3) := by decide +kernel
theorem d_M_copyNotice_60 : decode mi_M_copyNotice.2.1 60 = .ok (.return_, 1) := by decide +kernel
theorem d_M_append_0 : decode mi_M_append.2.1 0 = .ok (.iconst 4, 1) := by decide +kernel
theorem d_M_append_1 : decode mi_M_append.2.1 1 = .ok (.iload_n 1, 1) := by decide +kernel
theorem d_M_append_2 : decode mi_M_append.2.1 2 = .ok (.imul, 1) := by decide +kernel
theorem d_M_append_3 : decode mi_M_append.2.1 3 = .ok (.aload_n 0, 1) := by decide +kernel
theorem d_M_append_4 : decode mi_M_append.2.1 4 = .ok (.getfield 39, 3) := by decide +kernel
theorem d_M_append_7 : decode mi_M_append.2.1 7 = .ok (.iload_n 1, 1) := by decide +kernel
theorem d_M_append_8 : decode mi_M_append.2.1 8 = .ok (.iaload, 1) := by decide +kernel
theorem d_M_append_9 : decode mi_M_append.2.1 9 = .ok (.iadd, 1) := by decide +kernel
theorem d_M_append_10 : decode mi_M_append.2.1 10 = .ok (.istore 4, 2) := by decide +kernel
theorem d_M_append_12 : decode mi_M_append.2.1 12 = .ok (.aload_n 0, 1) := by decide +kernel
theorem d_M_append_13 : decode mi_M_append.2.1 13 = .ok (.getfield 42, 3) := by decide +kernel
theorem d_M_append_16 : decode mi_M_append.2.1 16 = .ok (.iload 4, 2) := by decide +kernel
theorem d_M_append_18 : decode mi_M_append.2.1 18 = .ok (.aload_n 0, 1) := by decide +kernel
theorem d_M_append_19 : decode mi_M_append.2.1 19 = .ok (.getfield 24, 3) := by decide +kernel
theorem d_M_append_22 : decode mi_M_append.2.1 22 = .ok (.iload_n 2, 1) := by decide +kernel
theorem d_M_append_23 : decode mi_M_append.2.1 23 = .ok (.iaload, 1) := by decide +kernel
theorem d_M_append_24 : decode mi_M_append.2.1 24 = .ok (.iastore, 1) := by decide +kernel
theorem d_M_append_25 : decode mi_M_append.2.1 25 = .ok (.aload_n 0, 1) := by decide +kernel
theorem d_M_append_26 : decode mi_M_append.2.1 26 = .ok (.getfield 45, 3) := by decide +kernel
theorem d_M_append_29 : decode mi_M_append.2.1 29 = .ok (.iload 4, 2) := by decide +kernel
theorem d_M_append_31 : decode mi_M_append.2.1 31 = .ok (.iload_n 3, 1) := by decide +kernel
theorem d_M_append_32 : decode mi_M_append.2.1 32 = .ok (.iastore, 1) := by decide +kernel
theorem d_M_append_33 : decode mi_M_append.2.1 33 = .ok (.iconst 0, 1) := by decide +kernel
theorem d_M_append_34 : decode mi_M_append.2.1 34 = .ok (.istore 5, 2) := by decide +kernel
theorem d_M_append_36 : decode mi_M_append.2.1 36 = .ok (.iload 5, 2) := by decide +kernel
theorem d_M_append_38 : decode mi_M_append.2.1 38 = .ok (.bipush 64, 2) := by decide +kernel
theorem d_M_append_40 : decode mi_M_append.2.1 40 = .ok (.if_icmp .ge 34, 3) := by decide +kernel
theorem d_M_append_43 : decode mi_M_append.2.1 43 = .ok (.aload_n 0, 1) := by decide +kernel
theorem d_M_append_44 : decode mi_M_append.2.1 44 = .ok (.getfield 48, 3) := by decide +kernel
theorem d_M_append_47 : decode mi_M_append.2.1 47 = .ok (.bipush 64, 2) := by decide +kernel
theorem d_M_append_49 : decode mi_M_append.2.1 49 = .ok (.iload 4, 2) := by decide +kernel
theorem d_M_append_51 : decode mi_M_append.2.1 51 = .ok (.imul, 1) := by decide +kernel
theorem d_M_append_52 : decode mi_M_append.2.1 52 = .ok (.iload 5, 2) := by decide +kernel
theorem d_M_append_54 : decode mi_M_append.2.1 54 = .ok (.iadd, 1) := by decide +kernel
theorem d_M_append_55 : decode mi_M_append.2.1 55 = .ok (.aload_n 0, 1) := by decide +kernel
theorem d_M_append_56 : decode mi_M_append.2.1 56 = .ok (.getfield 27, 3) := by decide +kernel
theorem d_M_append_59 : decode mi_M_append.2.1 59 = .ok (.bipush 64, 2) := by decide +kernel
theorem d_M_append_61 : decode mi_M_append.2.1 61 = .ok (.iload_n 2, 1) := by decide +kernel
theorem d_M_append_62 : decode mi_M_append.2.1 62 = .ok (.imul, 1) := by decide +kernel
theorem d_M_append_63 : decode mi_M_append.2.1 63 = .ok (.iload 5, 2) := by decide +kernel
theorem d_M_append_65 : decode mi_M_append.2.1 65 = .ok (.iadd, 1) := by decide +kernel
theorem d_M_append_66 : decode mi_M_append.2.1 66 = .ok (.iaload, 1) := by decide +kernel
theorem d_M_append_67 : decode mi_M_append.2.1 67 = .ok (.iastore, 1) := by decide +kernel
theorem d_M_append_68 : decode mi_M_append.2.1 68 = .ok (.iinc 5 1, 3) := by decide +kernel
theorem d_M_append_71 : decode mi_M_append.2.1 71 = .ok (.goto (-35), 3) := by decide +kernel
theorem d_M_append_74 : decode mi_M_append.2.1 74 = .ok (.aload_n 0, 1) := by decide +kernel
theorem d_M_append_75 : decode mi_M_append.2.1 75 = .ok (.getfield 39, 3) := by decide +kernel
theorem d_M_append_78 : decode mi_M_append.2.1 78 = .ok (.iload_n 1, 1) := by decide +kernel
theorem d_M_append_79 : decode mi_M_append.2.1 79 = .ok (.dup2, 1) := by decide +kernel
theorem d_M_append_80 : decode mi_M_append.2.1 80 = .ok (.iaload, 1) := by decide +kernel
theorem d_M_append_81 : decode mi_M_append.2.1 81 = .ok (.iconst 1, 1) := by decide +kernel
theorem d_M_append_82 : decode mi_M_append.2.1 82 = .ok (.iadd, 1) := by decide +kernel
theorem d_M_append_83 : decode mi_M_append.2.1 83 = .ok (.iastore, 1) := by decide +kernel
theorem d_M_append_84 : decode mi_M_append.2.1 84 = .ok (.return_, 1) := by decide +kernel
theorem d_M_chunk_0 : decode mi_M_chunk.2.1 0 = .ok (.aload_n 0, 1) := by decide +kernel
theorem d_M_chunk_1 : decode mi_M_chunk.2.1 1 = .ok (.getfield 72, 3) := by decide +kernel
theorem d_M_chunk_4 : decode mi_M_chunk.2.1 4 = .ok (.ifCond .ne 32, 3) := by decide +kernel
theorem d_M_chunk_7 : decode mi_M_chunk.2.1 7 = .ok (.iload_n 1, 1) := by decide +kernel
theorem d_M_chunk_8 : decode mi_M_chunk.2.1 8 = .ok (.ifCond .lt 28, 3) := by decide +kernel
theorem d_M_chunk_11 : decode mi_M_chunk.2.1 11 = .ok (.iload_n 1, 1) := by decide +kernel
theorem d_M_chunk_12 : decode mi_M_chunk.2.1 12 = .ok (.iconst 2, 1) := by decide +kernel
theorem d_M_chunk_13 : decode mi_M_chunk.2.1 13 = .ok (.if_icmp .gt 23, 3) := by decide +kernel
theorem d_M_chunk_16 : decode mi_M_chunk.2.1 16 = .ok (.iload_n 2, 1) := by decide +kernel
theorem d_M_chunk_17 : decode mi_M_chunk.2.1 17 = .ok (.ifCond .lt 19, 3) := by decide +kernel
theorem d_M_chunk_20 : decode mi_M_chunk.2.1 20 = .ok (.iload_n 3, 1) := by decide +kernel
theorem d_M_chunk_21 : decode mi_M_chunk.2.1 21 = .ok (.ifCond .lt 15, 3) := by decide +kernel
theorem d_M_chunk_24 : decode mi_M_chunk.2.1 24 = .ok (.iload 6, 2) := by decide +kernel
theorem d_M_chunk_26 : decode mi_M_chunk.2.1 26 = .ok (.ifCond .lt 10, 3) := by decide +kernel
theorem d_M_chunk_29 : decode mi_M_chunk.2.1 29 = .ok (.iload 6, 2) := by decide +kernel
theorem d_M_chunk_31 : decode mi_M_chunk.2.1 31 = .ok (.bipush 8, 2) := by decide +kernel
theorem d_M_chunk_33 : decode mi_M_chunk.2.1 33 = .ok (.if_icmp .le 5, 3) := by decide +kernel
theorem d_M_chunk_36 : decode mi_M_chunk.2.1 36 = .ok (.iconst (-1), 1) := by decide +kernel
theorem d_M_chunk_37 : decode mi_M_chunk.2.1 37 = .ok (.ireturn, 1) := by decide +kernel
theorem d_M_chunk_38 : decode mi_M_chunk.2.1 38 = .ok (.aload_n 0, 1) := by decide +kernel
theorem d_M_chunk_39 : decode mi_M_chunk.2.1 39 = .ok (.getfield 79, 3) := by decide +kernel
theorem d_M_chunk_42 : decode mi_M_chunk.2.1 42 = .ok (.ifCond .eq 10, 3) := by decide +kernel
theorem d_M_chunk_45 : decode mi_M_chunk.2.1 45 = .ok (.aload_n 0, 1) := by decide +kernel
theorem d_M_chunk_46 : decode mi_M_chunk.2.1 46 = .ok (.getfield 140, 3) := by decide +kernel
theorem d_M_chunk_49 : decode mi_M_chunk.2.1 49 = .ok (.goto 4, 3) := by decide +kernel
theorem d_M_chunk_52 : decode mi_M_chunk.2.1 52 = .ok (.iconst 0, 1) := by decide +kernel
theorem d_M_chunk_53 : decode mi_M_chunk.2.1 53 = .ok (.istore 7, 2) := by decide +kernel
theorem d_M_chunk_55 : decode mi_M_chunk.2.1 55 = .ok (.aload_n 0, 1) := by decide +kernel
theorem d_M_chunk_56 : decode mi_M_chunk.2.1 56 = .ok (.getfield 79, 3) := by decide +kernel
theorem d_M_chunk_59 : decode mi_M_chunk.2.1 59 = .ok (.ifCond .eq 10, 3) := by decide +kernel
theorem d_M_chunk_62 : decode mi_M_chunk.2.1 62 = .ok (.aload_n 0, 1) := by decide +kernel
theorem d_M_chunk_63 : decode mi_M_chunk.2.1 63 = .ok (.getfield 143, 3) := by decide +kernel
theorem d_M_chunk_66 : decode mi_M_chunk.2.1 66 = .ok (.goto 4, 3) := by decide +kernel
theorem d_M_chunk_69 : decode mi_M_chunk.2.1 69 = .ok (.iconst 0, 1) := by decide +kernel
theorem d_M_chunk_70 : decode mi_M_chunk.2.1 70 = .ok (.istore 8, 2) := by decide +kernel
theorem d_M_chunk_72 : decode mi_M_chunk.2.1 72 = .ok (.aload_n 0, 1) := by decide +kernel
theorem d_M_chunk_73 : decode mi_M_chunk.2.1 73 = .ok (.iload_n 2, 1) := by decide +kernel
theorem d_M_chunk_74 : decode mi_M_chunk.2.1 74 = .ok (.invokevirtual 146, 3) := by decide +kernel
theorem d_M_chunk_77 : decode mi_M_chunk.2.1 77 = .ok (.ifCond .eq 42, 3) := by decide +kernel
theorem d_M_chunk_80 : decode mi_M_chunk.2.1 80 = .ok (.aload_n 0, 1) := by decide +kernel
theorem d_M_chunk_81 : decode mi_M_chunk.2.1 81 = .ok (.getfield 79, 3) := by decide +kernel
theorem d_M_chunk_84 : decode mi_M_chunk.2.1 84 = .ok (.ifCond .eq 11, 3) := by decide +kernel
theorem d_M_chunk_87 : decode mi_M_chunk.2.1 87 = .ok (.iload_n 3, 1) := by decide +kernel
theorem d_M_chunk_88 : decode mi_M_chunk.2.1 88 = .ok (.aload_n 0, 1) := by decide +kernel
theorem d_M_chunk_89 : decode mi_M_chunk.2.1 89 = .ok (.getfield 149, 3) := by decide +kernel
theorem d_M_chunk_92 : decode mi_M_chunk.2.1 92 = .ok (.if_icmp .ne 27, 3) := by decide +kernel
theorem d_M_chunk_95 : decode mi_M_chunk.2.1 95 = .ok (.iload_n 1, 1) := by decide +kernel
theorem d_M_chunk_96 : decode mi_M_chunk.2.1 96 = .ok (.iconst 2, 1) := by decide +kernel
theorem d_M_chunk_97 : decode mi_M_chunk.2.1 97 = .ok (.if_icmp .eq 34, 3) := by decide +kernel
theorem d_M_chunk_100 : decode mi_M_chunk.2.1 100 = .ok (.iload 7, 2) := by decide +kernel
theorem d_M_chunk_102 : decode mi_M_chunk.2.1 102 = .ok (.iload 6, 2) := by decide +kernel
theorem d_M_chunk_104 : decode mi_M_chunk.2.1 104 = .ok (.iadd, 1) := by decide +kernel
theorem d_M_chunk_105 : decode mi_M_chunk.2.1 105 = .ok (.bipush 64, 2) := by decide +kernel
theorem d_M_chunk_107 : decode mi_M_chunk.2.1 107 = .ok (.if_icmp .gt 12, 3) := by decide +kernel
theorem d_M_chunk_110 : decode mi_M_chunk.2.1 110 = .ok (.iload 8, 2) := by decide +kernel
theorem d_M_chunk_112 : decode mi_M_chunk.2.1 112 = .ok (.iconst 1, 1) := by decide +kernel
theorem d_M_chunk_113 : decode mi_M_chunk.2.1 113 = .ok (.iadd, 1) := by decide +kernel
theorem d_M_chunk_114 : decode mi_M_chunk.2.1 114 = .ok (.bipush 12, 2) := by decide +kernel
theorem d_M_chunk_116 : decode mi_M_chunk.2.1 116 = .ok (.if_icmp .le 15, 3) := by decide +kernel
theorem d_M_chunk_119 : decode mi_M_chunk.2.1 119 = .ok (.aload_n 0, 1) := by decide +kernel
theorem d_M_chunk_120 : decode mi_M_chunk.2.1 120 = .ok (.iconst 1, 1) := by decide +kernel
theorem d_M_chunk_121 : decode mi_M_chunk.2.1 121 = .ok (.putfield 72, 3) := by decide +kernel
theorem d_M_chunk_124 : decode mi_M_chunk.2.1 124 = .ok (.aload_n 0, 1) := by decide +kernel
theorem d_M_chunk_125 : decode mi_M_chunk.2.1 125 = .ok (.iconst 0, 1) := by decide +kernel
theorem d_M_chunk_126 : decode mi_M_chunk.2.1 126 = .ok (.putfield 79, 3) := by decide +kernel
theorem d_M_chunk_129 : decode mi_M_chunk.2.1 129 = .ok (.iconst 2, 1) := by decide +kernel
theorem d_M_chunk_130 : decode mi_M_chunk.2.1 130 = .ok (.ireturn, 1) := by decide +kernel
theorem d_M_chunk_131 : decode mi_M_chunk.2.1 131 = .ok (.aload_n 0, 1) := by decide +kernel
theorem d_M_chunk_132 : decode mi_M_chunk.2.1 132 = .ok (.iconst 1, 1) := by decide +kernel
theorem d_M_chunk_133 : decode mi_M_chunk.2.1 133 = .ok (.putfield 76, 3) := by decide +kernel
theorem d_M_chunk_136 : decode mi_M_chunk.2.1 136 = .ok (.aload_n 0, 1) := by decide +kernel
theorem d_M_chunk_137 : decode mi_M_chunk.2.1 137 = .ok (.iload_n 2, 1) := by decide +kernel
theorem d_M_chunk_138 : decode mi_M_chunk.2.1 138 = .ok (.putfield 137, 3) := by decide +kernel
theorem d_M_chunk_141 : decode mi_M_chunk.2.1 141 = .ok (.iload_n 1, 1) := by decide +kernel
theorem d_M_chunk_142 : decode mi_M_chunk.2.1 142 = .ok (.iconst 2, 1) := by decide +kernel
theorem d_M_chunk_143 : decode mi_M_chunk.2.1 143 = .ok (.if_icmp .ne 10, 3) := by decide +kernel
theorem d_M_chunk_146 : decode mi_M_chunk.2.1 146 = .ok (.aload_n 0, 1) := by decide +kernel
theorem d_M_chunk_147 : decode mi_M_chunk.2.1 147 = .ok (.iconst 0, 1) := by decide +kernel
theorem d_M_chunk_148 : decode mi_M_chunk.2.1 148 = .ok (.putfield 79, 3) := by decide +kernel
theorem d_M_chunk_151 : decode mi_M_chunk.2.1 151 = .ok (.iconst 0, 1) := by decide +kernel
theorem d_M_chunk_152 : decode mi_M_chunk.2.1 152 = .ok (.ireturn, 1) := by decide +kernel
theorem d_M_chunk_153 : decode mi_M_chunk.2.1 153 = .ok (.aload_n 0, 1) := by decide +kernel
theorem d_M_chunk_154 : decode mi_M_chunk.2.1 154 = .ok (.iconst 1, 1) := by decide +kernel
theorem d_M_chunk_155 : decode mi_M_chunk.2.1 155 = .ok (.putfield 79, 3) := by decide +kernel
theorem d_M_chunk_158 : decode mi_M_chunk.2.1 158 = .ok (.aload_n 0, 1) := by decide +kernel
theorem d_M_chunk_159 : decode mi_M_chunk.2.1 159 = .ok (.iload_n 3, 1) := by decide +kernel
theorem d_M_chunk_160 : decode mi_M_chunk.2.1 160 = .ok (.putfield 149, 3) := by decide +kernel
theorem d_M_chunk_163 : decode mi_M_chunk.2.1 163 = .ok (.aload_n 0, 1) := by decide +kernel
theorem d_M_chunk_164 : decode mi_M_chunk.2.1 164 = .ok (.iload 8, 2) := by decide +kernel
theorem d_M_chunk_166 : decode mi_M_chunk.2.1 166 = .ok (.iconst 1, 1) := by decide +kernel
theorem d_M_chunk_167 : decode mi_M_chunk.2.1 167 = .ok (.iadd, 1) := by decide +kernel
theorem d_M_chunk_168 : decode mi_M_chunk.2.1 168 = .ok (.putfield 143, 3) := by decide +kernel
theorem d_M_chunk_171 : decode mi_M_chunk.2.1 171 = .ok (.aload_n 0, 1) := by decide +kernel
theorem d_M_chunk_172 : decode mi_M_chunk.2.1 172 = .ok (.iload 7, 2) := by decide +kernel
theorem d_M_chunk_174 : decode mi_M_chunk.2.1 174 = .ok (.iload 6, 2) := by decide +kernel
theorem d_M_chunk_176 : decode mi_M_chunk.2.1 176 = .ok (.iadd, 1) := by decide +kernel
theorem d_M_chunk_177 : decode mi_M_chunk.2.1 177 = .ok (.putfield 140, 3) := by decide +kernel
theorem d_M_chunk_180 : decode mi_M_chunk.2.1 180 = .ok (.iconst 0, 1) := by decide +kernel
theorem d_M_chunk_181 : decode mi_M_chunk.2.1 181 = .ok (.istore 9, 2) := by decide +kernel
theorem d_M_chunk_183 : decode mi_M_chunk.2.1 183 = .ok (.iload 9, 2) := by decide +kernel
theorem d_M_chunk_185 : decode mi_M_chunk.2.1 185 = .ok (.iload 6, 2) := by decide +kernel
theorem d_M_chunk_187 : decode mi_M_chunk.2.1 187 = .ok (.if_icmp .ge 32, 3) := by decide +kernel
theorem d_M_chunk_190 : decode mi_M_chunk.2.1 190 = .ok (.aload_n 0, 1) := by decide +kernel
theorem d_M_chunk_191 : decode mi_M_chunk.2.1 191 = .ok (.getfield 60, 3) := by decide +kernel
theorem d_M_chunk_194 : decode mi_M_chunk.2.1 194 = .ok (.iload 7, 2) := by decide +kernel
theorem d_M_chunk_196 : decode mi_M_chunk.2.1 196 = .ok (.iload 9, 2) := by decide +kernel
theorem d_M_chunk_198 : decode mi_M_chunk.2.1 198 = .ok (.iadd, 1) := by decide +kernel
theorem d_M_chunk_199 : decode mi_M_chunk.2.1 199 = .ok (.lload 4, 2) := by decide +kernel
theorem d_M_chunk_201 : decode mi_M_chunk.2.1 201 = .ok (.bipush 8, 2) := by decide +kernel
theorem d_M_chunk_203 : decode mi_M_chunk.2.1 203 = .ok (.iload 9, 2) := by decide +kernel
theorem d_M_chunk_205 : decode mi_M_chunk.2.1 205 = .ok (.imul, 1) := by decide +kernel
theorem d_M_chunk_206 : decode mi_M_chunk.2.1 206 = .ok (.lshr, 1) := by decide +kernel
theorem d_M_chunk_207 : decode mi_M_chunk.2.1 207 = .ok (.ldc2_w 105, 3) := by decide +kernel
theorem d_M_chunk_210 : decode mi_M_chunk.2.1 210 = .ok (.land, 1) := by decide +kernel
theorem d_M_chunk_211 : decode mi_M_chunk.2.1 211 = .ok (.l2i, 1) := by decide +kernel
theorem d_M_chunk_212 : decode mi_M_chunk.2.1 212 = .ok (.iastore, 1) := by decide +kernel
theorem d_M_chunk_213 : decode mi_M_chunk.2.1 213 = .ok (.iinc 9 1, 3) := by decide +kernel
theorem d_M_chunk_216 : decode mi_M_chunk.2.1 216 = .ok (.goto (-33), 3) := by decide +kernel
theorem d_M_chunk_219 : decode mi_M_chunk.2.1 219 = .ok (.iload_n 1, 1) := by decide +kernel
theorem d_M_chunk_220 : decode mi_M_chunk.2.1 220 = .ok (.ifCond .ne 5, 3) := by decide +kernel
theorem d_M_chunk_223 : decode mi_M_chunk.2.1 223 = .ok (.iconst 0, 1) := by decide +kernel
theorem d_M_chunk_224 : decode mi_M_chunk.2.1 224 = .ok (.ireturn, 1) := by decide +kernel
theorem d_M_chunk_225 : decode mi_M_chunk.2.1 225 = .ok (.aload_n 0, 1) := by decide +kernel
theorem d_M_chunk_226 : decode mi_M_chunk.2.1 226 = .ok (.iconst 0, 1) := by decide +kernel
theorem d_M_chunk_227 : decode mi_M_chunk.2.1 227 = .ok (.putfield 79, 3) := by decide +kernel
theorem d_M_chunk_230 : decode mi_M_chunk.2.1 230 = .ok (.aload_n 0, 1) := by decide +kernel
theorem d_M_chunk_231 : decode mi_M_chunk.2.1 231 = .ok (.iconst 1, 1) := by decide +kernel
theorem d_M_chunk_232 : decode mi_M_chunk.2.1 232 = .ok (.putfield 91, 3) := by decide +kernel
theorem d_M_chunk_235 : decode mi_M_chunk.2.1 235 = .ok (.aload_n 0, 1) := by decide +kernel
theorem d_M_chunk_236 : decode mi_M_chunk.2.1 236 = .ok (.iload_n 3, 1) := by decide +kernel
theorem d_M_chunk_237 : decode mi_M_chunk.2.1 237 = .ok (.putfield 152, 3) := by decide +kernel
theorem d_M_chunk_240 : decode mi_M_chunk.2.1 240 = .ok (.aload_n 0, 1) := by decide +kernel
theorem d_M_chunk_241 : decode mi_M_chunk.2.1 241 = .ok (.invokevirtual 155, 3) := by decide +kernel
theorem d_M_chunk_244 : decode mi_M_chunk.2.1 244 = .ok (.iconst 1, 1) := by decide +kernel
theorem d_M_chunk_245 : decode mi_M_chunk.2.1 245 = .ok (.ireturn, 1) := by decide +kernel
theorem d_M_follows_0 : decode mi_M_follows.2.1 0 = .ok (.aload_n 0, 1) := by decide +kernel
theorem d_M_follows_1 : decode mi_M_follows.2.1 1 = .ok (.getfield 76, 3) := by decide +kernel
theorem d_M_follows_4 : decode mi_M_follows.2.1 4 = .ok (.ifCond .eq 32, 3) := by decide +kernel
theorem d_M_follows_7 : decode mi_M_follows.2.1 7 = .ok (.iload_n 1, 1) := by decide +kernel
theorem d_M_follows_8 : decode mi_M_follows.2.1 8 = .ok (.i2l, 1) := by decide +kernel
theorem d_M_follows_9 : decode mi_M_follows.2.1 9 = .ok (.aload_n 0, 1) := by decide +kernel
theorem d_M_follows_10 : decode mi_M_follows.2.1 10 = .ok (.getfield 137, 3) := by decide +kernel
theorem d_M_follows_13 : decode mi_M_follows.2.1 13 = .ok (.i2l, 1) := by decide +kernel
theorem d_M_follows_14 : decode mi_M_follows.2.1 14 = .ok (.lconst 1, 1) := by decide +kernel
theorem d_M_follows_15 : decode mi_M_follows.2.1 15 = .ok (.ladd, 1) := by decide +kernel
theorem d_M_follows_16 : decode mi_M_follows.2.1 16 = .ok (.lcmp, 1) := by decide +kernel
theorem d_M_follows_17 : decode mi_M_follows.2.1 17 = .ok (.ifCond .eq 19, 3) := by decide +kernel
theorem d_M_follows_20 : decode mi_M_follows.2.1 20 = .ok (.aload_n 0, 1) := by decide +kernel
theorem d_M_follows_21 : decode mi_M_follows.2.1 21 = .ok (.getfield 137, 3) := by decide +kernel
theorem d_M_follows_24 : decode mi_M_follows.2.1 24 = .ok (.sipush 1000, 3) := by decide +kernel
theorem d_M_follows_27 : decode mi_M_follows.2.1 27 = .ok (.if_icmp .lt 13, 3) := by decide +kernel
theorem d_M_follows_30 : decode mi_M_follows.2.1 30 = .ok (.iload_n 1, 1) := by decide +kernel
theorem d_M_follows_31 : decode mi_M_follows.2.1 31 = .ok (.bipush 9, 2) := by decide +kernel
theorem d_M_follows_33 : decode mi_M_follows.2.1 33 = .ok (.if_icmp .gt 7, 3) := by decide +kernel
theorem d_M_follows_36 : decode mi_M_follows.2.1 36 = .ok (.iconst 1, 1) := by decide +kernel
theorem d_M_follows_37 : decode mi_M_follows.2.1 37 = .ok (.goto 4, 3) := by decide +kernel
theorem d_M_follows_40 : decode mi_M_follows.2.1 40 = .ok (.iconst 0, 1) := by decide +kernel
theorem d_M_follows_41 : decode mi_M_follows.2.1 41 = .ok (.ireturn, 1) := by decide +kernel
theorem d_M_reply_0 : decode mi_M_reply.2.1 0 = .ok (.aload_n 0, 1) := by decide +kernel
theorem d_M_reply_1 : decode mi_M_reply.2.1 1 = .ok (.iconst 0, 1) := by decide +kernel
theorem d_M_reply_2 : decode mi_M_reply.2.1 2 = .ok (.putfield 158, 3) := by decide +kernel
theorem d_M_reply_5 : decode mi_M_reply.2.1 5 = .ok (.aload_n 0, 1) := by decide +kernel
theorem d_M_reply_6 : decode mi_M_reply.2.1 6 = .ok (.iconst 1, 1) := by decide +kernel
theorem d_M_reply_7 : decode mi_M_reply.2.1 7 = .ok (.putfield 161, 3) := by decide +kernel
theorem d_M_reply_10 : decode mi_M_reply.2.1 10 = .ok (.aload_n 0, 1) := by decide +kernel
theorem d_M_reply_11 : decode mi_M_reply.2.1 11 = .ok (.iconst 1, 1) := by decide +kernel
theorem d_M_reply_12 : decode mi_M_reply.2.1 12 = .ok (.invokevirtual 187, 3) := by decide +kernel
theorem d_M_reply_15 : decode mi_M_reply.2.1 15 = .ok (.aload_n 0, 1) := by decide +kernel
theorem d_M_reply_16 : decode mi_M_reply.2.1 16 = .ok (.getfield 140, 3) := by decide +kernel
theorem d_M_reply_19 : decode mi_M_reply.2.1 19 = .ok (.ifCond .ne 4, 3) := by decide +kernel
theorem d_M_reply_22 : decode mi_M_reply.2.1 22 = .ok (.return_, 1) := by decide +kernel
theorem d_M_reply_23 : decode mi_M_reply.2.1 23 = .ok (.aload_n 0, 1) := by decide +kernel
theorem d_M_reply_24 : decode mi_M_reply.2.1 24 = .ok (.invokevirtual 164, 3) := by decide +kernel
theorem d_M_reply_27 : decode mi_M_reply.2.1 27 = .ok (.istore_n 1, 1) := by decide +kernel
theorem d_M_reply_28 : decode mi_M_reply.2.1 28 = .ok (.iload_n 1, 1) := by decide +kernel
theorem d_M_reply_29 : decode mi_M_reply.2.1 29 = .ok (.tableswitch 81 1 6 #[39, 46, 53, 60, 67, 74], 39) := by decide +kernel
theorem d_M_reply_68 : decode mi_M_reply.2.1 68 = .ok (.aload_n 0, 1) := by decide +kernel
theorem d_M_reply_69 : decode mi_M_reply.2.1 69 = .ok (.invokevirtual 190, 3) := by decide +kernel
theorem d_M_reply_72 : decode mi_M_reply.2.1 72 = .ok (.goto 43, 3) := by decide +kernel
theorem d_M_reply_75 : decode mi_M_reply.2.1 75 = .ok (.aload_n 0, 1) := by decide +kernel
theorem d_M_reply_76 : decode mi_M_reply.2.1 76 = .ok (.invokevirtual 193, 3) := by decide +kernel
theorem d_M_reply_79 : decode mi_M_reply.2.1 79 = .ok (.goto 36, 3) := by decide +kernel
theorem d_M_reply_82 : decode mi_M_reply.2.1 82 = .ok (.aload_n 0, 1) := by decide +kernel
theorem d_M_reply_83 : decode mi_M_reply.2.1 83 = .ok (.invokevirtual 196, 3) := by decide +kernel
theorem d_M_reply_86 : decode mi_M_reply.2.1 86 = .ok (.goto 29, 3) := by decide +kernel
theorem d_M_reply_89 : decode mi_M_reply.2.1 89 = .ok (.aload_n 0, 1) := by decide +kernel
theorem d_M_reply_90 : decode mi_M_reply.2.1 90 = .ok (.invokevirtual 199, 3) := by decide +kernel
theorem d_M_reply_93 : decode mi_M_reply.2.1 93 = .ok (.goto 22, 3) := by decide +kernel
theorem d_M_reply_96 : decode mi_M_reply.2.1 96 = .ok (.aload_n 0, 1) := by decide +kernel
theorem d_M_reply_97 : decode mi_M_reply.2.1 97 = .ok (.invokevirtual 202, 3) := by decide +kernel
theorem d_M_reply_100 : decode mi_M_reply.2.1 100 = .ok (.goto 15, 3) := by decide +kernel
theorem d_M_reply_103 : decode mi_M_reply.2.1 103 = .ok (.aload_n 0, 1) := by decide +kernel
theorem d_M_reply_104 : decode mi_M_reply.2.1 104 = .ok (.invokevirtual 205, 3) := by decide +kernel
theorem d_M_reply_107 : decode mi_M_reply.2.1 107 = .ok (.goto 8, 3) := by decide +kernel
theorem d_M_reply_110 : decode mi_M_reply.2.1 110 = .ok (.aload_n 0, 1) := by decide +kernel
theorem d_M_reply_111 : decode mi_M_reply.2.1 111 = .ok (.iconst 2, 1) := by decide +kernel
theorem d_M_reply_112 : decode mi_M_reply.2.1 112 = .ok (.invokevirtual 187, 3) := by decide +kernel
theorem d_M_reply_115 : decode mi_M_reply.2.1 115 = .ok (.return_, 1) := by decide +kernel
theorem d_M_code_0 : decode mi_M_code.2.1 0 = .ok (.aload_n 0, 1) := by decide +kernel
theorem d_M_code_1 : decode mi_M_code.2.1 1 = .ok (.iconst 0, 1) := by decide +kernel
theorem d_M_code_2 : decode mi_M_code.2.1 2 = .ok (.putfield 94, 3) := by decide +kernel
theorem d_M_code_5 : decode mi_M_code.2.1 5 = .ok (.aload_n 0, 1) := by decide +kernel
theorem d_M_code_6 : decode mi_M_code.2.1 6 = .ok (.iload_n 1, 1) := by decide +kernel
theorem d_M_code_7 : decode mi_M_code.2.1 7 = .ok (.invokevirtual 184, 3) := by decide +kernel
theorem d_M_code_10 : decode mi_M_code.2.1 10 = .ok (.return_, 1) := by decide +kernel
theorem d_M_say_0 : decode mi_M_say.2.1 0 = .ok (.aload_n 0, 1) := by decide +kernel
theorem d_M_say_1 : decode mi_M_say.2.1 1 = .ok (.getfield 69, 3) := by decide +kernel
theorem d_M_say_4 : decode mi_M_say.2.1 4 = .ok (.aload_n 0, 1) := by decide +kernel
theorem d_M_say_5 : decode mi_M_say.2.1 5 = .ok (.getfield 94, 3) := by decide +kernel
theorem d_M_say_8 : decode mi_M_say.2.1 8 = .ok (.iload_n 1, 1) := by decide +kernel
theorem d_M_say_9 : decode mi_M_say.2.1 9 = .ok (.iastore, 1) := by decide +kernel
theorem d_M_say_10 : decode mi_M_say.2.1 10 = .ok (.aload_n 0, 1) := by decide +kernel
theorem d_M_say_11 : decode mi_M_say.2.1 11 = .ok (.dup, 1) := by decide +kernel
theorem d_M_say_12 : decode mi_M_say.2.1 12 = .ok (.getfield 94, 3) := by decide +kernel
theorem d_M_say_15 : decode mi_M_say.2.1 15 = .ok (.iconst 1, 1) := by decide +kernel
theorem d_M_say_16 : decode mi_M_say.2.1 16 = .ok (.iadd, 1) := by decide +kernel
theorem d_M_say_17 : decode mi_M_say.2.1 17 = .ok (.putfield 94, 3) := by decide +kernel
theorem d_M_say_20 : decode mi_M_say.2.1 20 = .ok (.return_, 1) := by decide +kernel
theorem d_M_next_0 : decode mi_M_next.2.1 0 = .ok (.aload_n 0, 1) := by decide +kernel
theorem d_M_next_1 : decode mi_M_next.2.1 1 = .ok (.getfield 158, 3) := by decide +kernel
theorem d_M_next_4 : decode mi_M_next.2.1 4 = .ok (.aload_n 0, 1) := by decide +kernel
theorem d_M_next_5 : decode mi_M_next.2.1 5 = .ok (.getfield 140, 3) := by decide +kernel
theorem d_M_next_8 : decode mi_M_next.2.1 8 = .ok (.if_icmp .lt 10, 3) := by decide +kernel
theorem d_M_next_11 : decode mi_M_next.2.1 11 = .ok (.aload_n 0, 1) := by decide +kernel
theorem d_M_next_12 : decode mi_M_next.2.1 12 = .ok (.iconst 0, 1) := by decide +kernel
theorem d_M_next_13 : decode mi_M_next.2.1 13 = .ok (.putfield 161, 3) := by decide +kernel
theorem d_M_next_16 : decode mi_M_next.2.1 16 = .ok (.iconst 0, 1) := by decide +kernel
theorem d_M_next_17 : decode mi_M_next.2.1 17 = .ok (.ireturn, 1) := by decide +kernel
theorem d_M_next_18 : decode mi_M_next.2.1 18 = .ok (.aload_n 0, 1) := by decide +kernel
theorem d_M_next_19 : decode mi_M_next.2.1 19 = .ok (.dup, 1) := by decide +kernel
theorem d_M_next_20 : decode mi_M_next.2.1 20 = .ok (.getfield 158, 3) := by decide +kernel
theorem d_M_next_23 : decode mi_M_next.2.1 23 = .ok (.iconst 1, 1) := by decide +kernel
theorem d_M_next_24 : decode mi_M_next.2.1 24 = .ok (.iadd, 1) := by decide +kernel
theorem d_M_next_25 : decode mi_M_next.2.1 25 = .ok (.putfield 158, 3) := by decide +kernel
theorem d_M_next_28 : decode mi_M_next.2.1 28 = .ok (.aload_n 0, 1) := by decide +kernel
theorem d_M_next_29 : decode mi_M_next.2.1 29 = .ok (.getfield 60, 3) := by decide +kernel
theorem d_M_next_32 : decode mi_M_next.2.1 32 = .ok (.aload_n 0, 1) := by decide +kernel
theorem d_M_next_33 : decode mi_M_next.2.1 33 = .ok (.getfield 158, 3) := by decide +kernel
theorem d_M_next_36 : decode mi_M_next.2.1 36 = .ok (.iconst 1, 1) := by decide +kernel
theorem d_M_next_37 : decode mi_M_next.2.1 37 = .ok (.isub, 1) := by decide +kernel
theorem d_M_next_38 : decode mi_M_next.2.1 38 = .ok (.iaload, 1) := by decide +kernel
theorem d_M_next_39 : decode mi_M_next.2.1 39 = .ok (.ireturn, 1) := by decide +kernel
theorem d_M_read_0 : decode mi_M_read.2.1 0 = .ok (.aload_n 0, 1) := by decide +kernel
theorem d_M_read_1 : decode mi_M_read.2.1 1 = .ok (.invokevirtual 208, 3) := by decide +kernel
theorem d_M_read_4 : decode mi_M_read.2.1 4 = .ok (.aload_n 0, 1) := by decide +kernel
theorem d_M_read_5 : decode mi_M_read.2.1 5 = .ok (.invokevirtual 211, 3) := by decide +kernel
theorem d_M_read_8 : decode mi_M_read.2.1 8 = .ok (.ifCond .ne 4, 3) := by decide +kernel
theorem d_M_read_11 : decode mi_M_read.2.1 11 = .ok (.return_, 1) := by decide +kernel
theorem d_M_read_12 : decode mi_M_read.2.1 12 = .ok (.aload_n 0, 1) := by decide +kernel
theorem d_M_read_13 : decode mi_M_read.2.1 13 = .ok (.getfield 168, 3) := by decide +kernel
theorem d_M_read_16 : decode mi_M_read.2.1 16 = .ok (.ifCond .lt 15, 3) := by decide +kernel
theorem d_M_read_19 : decode mi_M_read.2.1 19 = .ok (.aload_n 0, 1) := by decide +kernel
theorem d_M_read_20 : decode mi_M_read.2.1 20 = .ok (.getfield 17, 3) := by decide +kernel
theorem d_M_read_23 : decode mi_M_read.2.1 23 = .ok (.aload_n 0, 1) := by decide +kernel
theorem d_M_read_24 : decode mi_M_read.2.1 24 = .ok (.getfield 168, 3) := by decide +kernel
theorem d_M_read_27 : decode mi_M_read.2.1 27 = .ok (.baload, 1) := by decide +kernel
theorem d_M_read_28 : decode mi_M_read.2.1 28 = .ok (.ifCond .ne 20, 3) := by decide +kernel
theorem d_M_read_31 : decode mi_M_read.2.1 31 = .ok (.aload_n 0, 1) := by decide +kernel
theorem d_M_read_32 : decode mi_M_read.2.1 32 = .ok (.aload_n 0, 1) := by decide +kernel
theorem d_M_read_33 : decode mi_M_read.2.1 33 = .ok (.getfield 168, 3) := by decide +kernel
theorem d_M_read_36 : decode mi_M_read.2.1 36 = .ok (.ifCond .ge 7, 3) := by decide +kernel
theorem d_M_read_39 : decode mi_M_read.2.1 39 = .ok (.iconst 3, 1) := by decide +kernel
theorem d_M_read_40 : decode mi_M_read.2.1 40 = .ok (.goto 4, 3) := by decide +kernel
theorem d_M_read_43 : decode mi_M_read.2.1 43 = .ok (.iconst 4, 1) := by decide +kernel
theorem d_M_read_44 : decode mi_M_read.2.1 44 = .ok (.invokevirtual 187, 3) := by decide +kernel
theorem d_M_read_47 : decode mi_M_read.2.1 47 = .ok (.return_, 1) := by decide +kernel
theorem d_M_read_48 : decode mi_M_read.2.1 48 = .ok (.aload_n 0, 1) := by decide +kernel
theorem d_M_read_49 : decode mi_M_read.2.1 49 = .ok (.iconst 0, 1) := by decide +kernel
theorem d_M_read_50 : decode mi_M_read.2.1 50 = .ok (.invokevirtual 187, 3) := by decide +kernel
theorem d_M_read_53 : decode mi_M_read.2.1 53 = .ok (.iconst 0, 1) := by decide +kernel
theorem d_M_read_54 : decode mi_M_read.2.1 54 = .ok (.istore_n 1, 1) := by decide +kernel
theorem d_M_read_55 : decode mi_M_read.2.1 55 = .ok (.iload_n 1, 1) := by decide +kernel
theorem d_M_read_56 : decode mi_M_read.2.1 56 = .ok (.aload_n 0, 1) := by decide +kernel
theorem d_M_read_57 : decode mi_M_read.2.1 57 = .ok (.getfield 24, 3) := by decide +kernel
theorem d_M_read_60 : decode mi_M_read.2.1 60 = .ok (.aload_n 0, 1) := by decide +kernel
theorem d_M_read_61 : decode mi_M_read.2.1 61 = .ok (.getfield 168, 3) := by decide +kernel
theorem d_M_read_64 : decode mi_M_read.2.1 64 = .ok (.iaload, 1) := by decide +kernel
theorem d_M_read_65 : decode mi_M_read.2.1 65 = .ok (.if_icmp .ge 27, 3) := by decide +kernel
theorem d_M_read_68 : decode mi_M_read.2.1 68 = .ok (.aload_n 0, 1) := by decide +kernel
theorem d_M_read_69 : decode mi_M_read.2.1 69 = .ok (.aload_n 0, 1) := by decide +kernel
theorem d_M_read_70 : decode mi_M_read.2.1 70 = .ok (.getfield 27, 3) := by decide +kernel
theorem d_M_read_73 : decode mi_M_read.2.1 73 = .ok (.bipush 64, 2) := by decide +kernel
theorem d_M_read_75 : decode mi_M_read.2.1 75 = .ok (.aload_n 0, 1) := by decide +kernel
theorem d_M_read_76 : decode mi_M_read.2.1 76 = .ok (.getfield 168, 3) := by decide +kernel
theorem d_M_read_79 : decode mi_M_read.2.1 79 = .ok (.imul, 1) := by decide +kernel
theorem d_M_read_80 : decode mi_M_read.2.1 80 = .ok (.iload_n 1, 1) := by decide +kernel
theorem d_M_read_81 : decode mi_M_read.2.1 81 = .ok (.iadd, 1) := by decide +kernel
theorem d_M_read_82 : decode mi_M_read.2.1 82 = .ok (.iaload, 1) := by decide +kernel
theorem d_M_read_83 : decode mi_M_read.2.1 83 = .ok (.invokevirtual 184, 3) := by decide +kernel
theorem d_M_read_86 : decode mi_M_read.2.1 86 = .ok (.iinc 1 1, 3) := by decide +kernel
theorem d_M_read_89 : decode mi_M_read.2.1 89 = .ok (.goto (-34), 3) := by decide +kernel
theorem d_M_read_92 : decode mi_M_read.2.1 92 = .ok (.return_, 1) := by decide +kernel
theorem d_M_readName_0 : decode mi_M_readName.2.1 0 = .ok (.aload_n 0, 1) := by decide +kernel
theorem d_M_readName_1 : decode mi_M_readName.2.1 1 = .ok (.invokevirtual 164, 3) := by decide +kernel
theorem d_M_readName_4 : decode mi_M_readName.2.1 4 = .ok (.istore_n 1, 1) := by decide +kernel
theorem d_M_readName_5 : decode mi_M_readName.2.1 5 = .ok (.aload_n 0, 1) := by decide +kernel
theorem d_M_readName_6 : decode mi_M_readName.2.1 6 = .ok (.iconst (-1), 1) := by decide +kernel
theorem d_M_readName_7 : decode mi_M_readName.2.1 7 = .ok (.putfield 168, 3) := by decide +kernel
theorem d_M_readName_10 : decode mi_M_readName.2.1 10 = .ok (.iload_n 1, 1) := by decide +kernel
theorem d_M_readName_11 : decode mi_M_readName.2.1 11 = .ok (.ifCond .ne 28, 3) := by decide +kernel
theorem d_M_readName_14 : decode mi_M_readName.2.1 14 = .ok (.aload_n 0, 1) := by decide +kernel
theorem d_M_readName_15 : decode mi_M_readName.2.1 15 = .ok (.invokevirtual 164, 3) := by decide +kernel
theorem d_M_readName_18 : decode mi_M_readName.2.1 18 = .ok (.istore_n 2, 1) := by decide +kernel
theorem d_M_readName_19 : decode mi_M_readName.2.1 19 = .ok (.aload_n 0, 1) := by decide +kernel
theorem d_M_readName_20 : decode mi_M_readName.2.1 20 = .ok (.aload_n 0, 1) := by decide +kernel
theorem d_M_readName_21 : decode mi_M_readName.2.1 21 = .ok (.iload_n 2, 1) := by decide +kernel
theorem d_M_readName_22 : decode mi_M_readName.2.1 22 = .ok (.invokevirtual 97, 3) := by decide +kernel
theorem d_M_readName_25 : decode mi_M_readName.2.1 25 = .ok (.ifCond .eq 7, 3) := by decide +kernel
theorem d_M_readName_28 : decode mi_M_readName.2.1 28 = .ok (.iload_n 2, 1) := by decide +kernel
theorem d_M_readName_29 : decode mi_M_readName.2.1 29 = .ok (.goto 4, 3) := by decide +kernel
theorem d_M_readName_32 : decode mi_M_readName.2.1 32 = .ok (.iconst (-1), 1) := by decide +kernel
theorem d_M_readName_33 : decode mi_M_readName.2.1 33 = .ok (.putfield 168, 3) := by decide +kernel
theorem d_M_readName_36 : decode mi_M_readName.2.1 36 = .ok (.goto 48, 3) := by decide +kernel
theorem d_M_readName_39 : decode mi_M_readName.2.1 39 = .ok (.iload_n 1, 1) := by decide +kernel
theorem d_M_readName_40 : decode mi_M_readName.2.1 40 = .ok (.iconst 1, 1) := by decide +kernel
theorem d_M_readName_41 : decode mi_M_readName.2.1 41 = .ok (.if_icmp .ne 38, 3) := by decide +kernel
theorem d_M_readName_44 : decode mi_M_readName.2.1 44 = .ok (.aload_n 0, 1) := by decide +kernel
theorem d_M_readName_45 : decode mi_M_readName.2.1 45 = .ok (.invokevirtual 164, 3) := by decide +kernel
theorem d_M_readName_48 : decode mi_M_readName.2.1 48 = .ok (.istore_n 2, 1) := by decide +kernel
theorem d_M_readName_49 : decode mi_M_readName.2.1 49 = .ok (.aload_n 0, 1) := by decide +kernel
theorem d_M_readName_50 : decode mi_M_readName.2.1 50 = .ok (.iconst 2, 1) := by decide +kernel
theorem d_M_readName_51 : decode mi_M_readName.2.1 51 = .ok (.invokevirtual 171, 3) := by decide +kernel
theorem d_M_readName_54 : decode mi_M_readName.2.1 54 = .ok (.istore_n 3, 1) := by decide +kernel
theorem d_M_readName_55 : decode mi_M_readName.2.1 55 = .ok (.aload_n 0, 1) := by decide +kernel
theorem d_M_readName_56 : decode mi_M_readName.2.1 56 = .ok (.iload_n 2, 1) := by decide +kernel
theorem d_M_readName_57 : decode mi_M_readName.2.1 57 = .ok (.ifCond .ne 15, 3) := by decide +kernel
theorem d_M_readName_60 : decode mi_M_readName.2.1 60 = .ok (.aload_n 0, 1) := by decide +kernel
theorem d_M_readName_61 : decode mi_M_readName.2.1 61 = .ok (.iload_n 3, 1) := by decide +kernel
theorem d_M_readName_62 : decode mi_M_readName.2.1 62 = .ok (.invokevirtual 97, 3) := by decide +kernel
theorem d_M_readName_65 : decode mi_M_readName.2.1 65 = .ok (.ifCond .eq 7, 3) := by decide +kernel
theorem d_M_readName_68 : decode mi_M_readName.2.1 68 = .ok (.iload_n 3, 1) := by decide +kernel
theorem d_M_readName_69 : decode mi_M_readName.2.1 69 = .ok (.goto 4, 3) := by decide +kernel
theorem d_M_readName_72 : decode mi_M_readName.2.1 72 = .ok (.iconst (-1), 1) := by decide +kernel
theorem d_M_readName_73 : decode mi_M_readName.2.1 73 = .ok (.putfield 168, 3) := by decide +kernel
theorem d_M_readName_76 : decode mi_M_readName.2.1 76 = .ok (.goto 8, 3) := by decide +kernel
theorem d_M_readName_79 : decode mi_M_readName.2.1 79 = .ok (.aload_n 0, 1) := by decide +kernel
theorem d_M_readName_80 : decode mi_M_readName.2.1 80 = .ok (.iconst 0, 1) := by decide +kernel
theorem d_M_readName_81 : decode mi_M_readName.2.1 81 = .ok (.putfield 161, 3) := by decide +kernel
theorem d_M_readName_84 : decode mi_M_readName.2.1 84 = .ok (.return_, 1) := by decide +kernel
theorem d_M_number_0 : decode mi_M_number.2.1 0 = .ok (.iconst 0, 1) := by decide +kernel
theorem d_M_number_1 : decode mi_M_number.2.1 1 = .ok (.istore_n 2, 1) := by decide +kernel
theorem d_M_number_2 : decode mi_M_number.2.1 2 = .ok (.iconst 0, 1) := by decide +kernel
theorem d_M_number_3 : decode mi_M_number.2.1 3 = .ok (.istore_n 3, 1) := by decide +kernel
theorem d_M_number_4 : decode mi_M_number.2.1 4 = .ok (.iload_n 3, 1) := by decide +kernel
theorem d_M_number_5 : decode mi_M_number.2.1 5 = .ok (.iload_n 1, 1) := by decide +kernel
theorem d_M_number_6 : decode mi_M_number.2.1 6 = .ok (.if_icmp .ge 21, 3) := by decide +kernel
theorem d_M_number_9 : decode mi_M_number.2.1 9 = .ok (.iload_n 2, 1) := by decide +kernel
theorem d_M_number_10 : decode mi_M_number.2.1 10 = .ok (.aload_n 0, 1) := by decide +kernel
theorem d_M_number_11 : decode mi_M_number.2.1 11 = .ok (.invokevirtual 164, 3) := by decide +kernel
theorem d_M_number_14 : decode mi_M_number.2.1 14 = .ok (.bipush 8, 2) := by decide +kernel
theorem d_M_number_16 : decode mi_M_number.2.1 16 = .ok (.iload_n 3, 1) := by decide +kernel
theorem d_M_number_17 : decode mi_M_number.2.1 17 = .ok (.imul, 1) := by decide +kernel
theorem d_M_number_18 : decode mi_M_number.2.1 18 = .ok (.ishl, 1) := by decide +kernel
theorem d_M_number_19 : decode mi_M_number.2.1 19 = .ok (.ior, 1) := by decide +kernel
theorem d_M_number_20 : decode mi_M_number.2.1 20 = .ok (.istore_n 2, 1) := by decide +kernel
theorem d_M_number_21 : decode mi_M_number.2.1 21 = .ok (.iinc 3 1, 3) := by decide +kernel
theorem d_M_number_24 : decode mi_M_number.2.1 24 = .ok (.goto (-20), 3) := by decide +kernel
theorem d_M_number_27 : decode mi_M_number.2.1 27 = .ok (.iload_n 2, 1) := by decide +kernel
theorem d_M_number_28 : decode mi_M_number.2.1 28 = .ok (.ireturn, 1) := by decide +kernel
theorem d_M_whole_0 : decode mi_M_whole.2.1 0 = .ok (.aload_n 0, 1) := by decide +kernel
theorem d_M_whole_1 : decode mi_M_whole.2.1 1 = .ok (.getfield 161, 3) := by decide +kernel
theorem d_M_whole_4 : decode mi_M_whole.2.1 4 = .ok (.ifCond .eq 18, 3) := by decide +kernel
theorem d_M_whole_7 : decode mi_M_whole.2.1 7 = .ok (.aload_n 0, 1) := by decide +kernel
theorem d_M_whole_8 : decode mi_M_whole.2.1 8 = .ok (.getfield 158, 3) := by decide +kernel
theorem d_M_whole_11 : decode mi_M_whole.2.1 11 = .ok (.aload_n 0, 1) := by decide +kernel
theorem d_M_whole_12 : decode mi_M_whole.2.1 12 = .ok (.getfield 140, 3) := by decide +kernel
theorem d_M_whole_15 : decode mi_M_whole.2.1 15 = .ok (.if_icmp .ne 7, 3) := by decide +kernel
theorem d_M_whole_18 : decode mi_M_whole.2.1 18 = .ok (.iconst 1, 1) := by decide +kernel
theorem d_M_whole_19 : decode mi_M_whole.2.1 19 = .ok (.goto 4, 3) := by decide +kernel
theorem d_M_whole_22 : decode mi_M_whole.2.1 22 = .ok (.iconst 0, 1) := by decide +kernel
theorem d_M_whole_23 : decode mi_M_whole.2.1 23 = .ok (.ireturn, 1) := by decide +kernel
theorem d_M_write_0 : decode mi_M_write.2.1 0 = .ok (.aload_n 0, 1) := by decide +kernel
theorem d_M_write_1 : decode mi_M_write.2.1 1 = .ok (.invokevirtual 208, 3) := by decide +kernel
theorem d_M_write_4 : decode mi_M_write.2.1 4 = .ok (.aload_n 0, 1) := by decide +kernel
theorem d_M_write_5 : decode mi_M_write.2.1 5 = .ok (.getfield 168, 3) := by decide +kernel
theorem d_M_write_8 : decode mi_M_write.2.1 8 = .ok (.istore_n 1, 1) := by decide +kernel
theorem d_M_write_9 : decode mi_M_write.2.1 9 = .ok (.aload_n 0, 1) := by decide +kernel
theorem d_M_write_10 : decode mi_M_write.2.1 10 = .ok (.getfield 161, 3) := by decide +kernel
theorem d_M_write_13 : decode mi_M_write.2.1 13 = .ok (.ifCond .eq 7, 3) := by decide +kernel
theorem d_M_write_16 : decode mi_M_write.2.1 16 = .ok (.aload_n 0, 1) := by decide +kernel
theorem d_M_write_17 : decode mi_M_write.2.1 17 = .ok (.invokevirtual 215, 3) := by decide +kernel
theorem d_M_write_20 : decode mi_M_write.2.1 20 = .ok (.aload_n 0, 1) := by decide +kernel
theorem d_M_write_21 : decode mi_M_write.2.1 21 = .ok (.invokevirtual 211, 3) := by decide +kernel
theorem d_M_write_24 : decode mi_M_write.2.1 24 = .ok (.ifCond .ne 4, 3) := by decide +kernel
theorem d_M_write_27 : decode mi_M_write.2.1 27 = .ok (.return_, 1) := by decide +kernel
theorem d_M_write_28 : decode mi_M_write.2.1 28 = .ok (.iload_n 1, 1) := by decide +kernel
theorem d_M_write_29 : decode mi_M_write.2.1 29 = .ok (.ifCond .lt 12, 3) := by decide +kernel
theorem d_M_write_32 : decode mi_M_write.2.1 32 = .ok (.aload_n 0, 1) := by decide +kernel
theorem d_M_write_33 : decode mi_M_write.2.1 33 = .ok (.getfield 17, 3) := by decide +kernel
theorem d_M_write_36 : decode mi_M_write.2.1 36 = .ok (.iload_n 1, 1) := by decide +kernel
theorem d_M_write_37 : decode mi_M_write.2.1 37 = .ok (.baload, 1) := by decide +kernel
theorem d_M_write_38 : decode mi_M_write.2.1 38 = .ok (.ifCond .ne 19, 3) := by decide +kernel
theorem d_M_write_41 : decode mi_M_write.2.1 41 = .ok (.aload_n 0, 1) := by decide +kernel
theorem d_M_write_42 : decode mi_M_write.2.1 42 = .ok (.iload_n 1, 1) := by decide +kernel
theorem d_M_write_43 : decode mi_M_write.2.1 43 = .ok (.ifCond .ge 7, 3) := by decide +kernel
theorem d_M_write_46 : decode mi_M_write.2.1 46 = .ok (.iconst 3, 1) := by decide +kernel
theorem d_M_write_47 : decode mi_M_write.2.1 47 = .ok (.goto 4, 3) := by decide +kernel
theorem d_M_write_50 : decode mi_M_write.2.1 50 = .ok (.iconst 4, 1) := by decide +kernel
theorem d_M_write_51 : decode mi_M_write.2.1 51 = .ok (.invokevirtual 187, 3) := by decide +kernel
theorem d_M_write_54 : decode mi_M_write.2.1 54 = .ok (.goto 46, 3) := by decide +kernel
theorem d_M_write_57 : decode mi_M_write.2.1 57 = .ok (.aload_n 0, 1) := by decide +kernel
theorem d_M_write_58 : decode mi_M_write.2.1 58 = .ok (.getfield 21, 3) := by decide +kernel
theorem d_M_write_61 : decode mi_M_write.2.1 61 = .ok (.iload_n 1, 1) := by decide +kernel
theorem d_M_write_62 : decode mi_M_write.2.1 62 = .ok (.iaload, 1) := by decide +kernel
theorem d_M_write_63 : decode mi_M_write.2.1 63 = .ok (.ifCond .eq 26, 3) := by decide +kernel
theorem d_M_write_66 : decode mi_M_write.2.1 66 = .ok (.aload_n 0, 1) := by decide +kernel
theorem d_M_write_67 : decode mi_M_write.2.1 67 = .ok (.getfield 21, 3) := by decide +kernel
theorem d_M_write_70 : decode mi_M_write.2.1 70 = .ok (.iload_n 1, 1) := by decide +kernel
theorem d_M_write_71 : decode mi_M_write.2.1 71 = .ok (.iaload, 1) := by decide +kernel
theorem d_M_write_72 : decode mi_M_write.2.1 72 = .ok (.aload_n 0, 1) := by decide +kernel
theorem d_M_write_73 : decode mi_M_write.2.1 73 = .ok (.getfield 63, 3) := by decide +kernel
theorem d_M_write_76 : decode mi_M_write.2.1 76 = .ok (.iconst 0, 1) := by decide +kernel
theorem d_M_write_77 : decode mi_M_write.2.1 77 = .ok (.iaload, 1) := by decide +kernel
theorem d_M_write_78 : decode mi_M_write.2.1 78 = .ok (.if_icmp .eq 11, 3) := by decide +kernel
theorem d_M_write_81 : decode mi_M_write.2.1 81 = .ok (.aload_n 0, 1) := by decide +kernel
theorem d_M_write_82 : decode mi_M_write.2.1 82 = .ok (.iconst 5, 1) := by decide +kernel
theorem d_M_write_83 : decode mi_M_write.2.1 83 = .ok (.invokevirtual 187, 3) := by decide +kernel
theorem d_M_write_86 : decode mi_M_write.2.1 86 = .ok (.goto 14, 3) := by decide +kernel
theorem d_M_write_89 : decode mi_M_write.2.1 89 = .ok (.aload_n 0, 1) := by decide +kernel
theorem d_M_write_90 : decode mi_M_write.2.1 90 = .ok (.iload_n 1, 1) := by decide +kernel
theorem d_M_write_91 : decode mi_M_write.2.1 91 = .ok (.invokevirtual 134, 3) := by decide +kernel
theorem d_M_write_94 : decode mi_M_write.2.1 94 = .ok (.pop, 1) := by decide +kernel
theorem d_M_write_95 : decode mi_M_write.2.1 95 = .ok (.aload_n 0, 1) := by decide +kernel
theorem d_M_write_96 : decode mi_M_write.2.1 96 = .ok (.iconst 0, 1) := by decide +kernel
theorem d_M_write_97 : decode mi_M_write.2.1 97 = .ok (.invokevirtual 187, 3) := by decide +kernel
theorem d_M_write_100 : decode mi_M_write.2.1 100 = .ok (.return_, 1) := by decide +kernel
theorem d_M_readValue_0 : decode mi_M_readValue.2.1 0 = .ok (.aload_n 0, 1) := by decide +kernel
theorem d_M_readValue_1 : decode mi_M_readValue.2.1 1 = .ok (.iconst 0, 1) := by decide +kernel
theorem d_M_readValue_2 : decode mi_M_readValue.2.1 2 = .ok (.putfield 125, 3) := by decide +kernel
theorem d_M_readValue_5 : decode mi_M_readValue.2.1 5 = .ok (.iconst 0, 1) := by decide +kernel
theorem d_M_readValue_6 : decode mi_M_readValue.2.1 6 = .ok (.istore_n 1, 1) := by decide +kernel
theorem d_M_readValue_7 : decode mi_M_readValue.2.1 7 = .ok (.aload_n 0, 1) := by decide +kernel
theorem d_M_readValue_8 : decode mi_M_readValue.2.1 8 = .ok (.getfield 66, 3) := by decide +kernel
theorem d_M_readValue_11 : decode mi_M_readValue.2.1 11 = .ok (.iconst 0, 1) := by decide +kernel
theorem d_M_readValue_12 : decode mi_M_readValue.2.1 12 = .ok (.iconst 1, 1) := by decide +kernel
theorem d_M_readValue_13 : decode mi_M_readValue.2.1 13 = .ok (.iastore, 1) := by decide +kernel
theorem d_M_readValue_14 : decode mi_M_readValue.2.1 14 = .ok (.iload_n 1, 1) := by decide +kernel
theorem d_M_readValue_15 : decode mi_M_readValue.2.1 15 = .ok (.ifCond .lt 116, 3) := by decide +kernel
theorem d_M_readValue_18 : decode mi_M_readValue.2.1 18 = .ok (.aload_n 0, 1) := by decide +kernel
theorem d_M_readValue_19 : decode mi_M_readValue.2.1 19 = .ok (.getfield 161, 3) := by decide +kernel
theorem d_M_readValue_22 : decode mi_M_readValue.2.1 22 = .ok (.ifCond .eq 109, 3) := by decide +kernel
theorem d_M_readValue_25 : decode mi_M_readValue.2.1 25 = .ok (.aload_n 0, 1) := by decide +kernel
theorem d_M_readValue_26 : decode mi_M_readValue.2.1 26 = .ok (.getfield 66, 3) := by decide +kernel
theorem d_M_readValue_29 : decode mi_M_readValue.2.1 29 = .ok (.iload_n 1, 1) := by decide +kernel
theorem d_M_readValue_30 : decode mi_M_readValue.2.1 30 = .ok (.iaload, 1) := by decide +kernel
theorem d_M_readValue_31 : decode mi_M_readValue.2.1 31 = .ok (.ifCond .ne 9, 3) := by decide +kernel
theorem d_M_readValue_34 : decode mi_M_readValue.2.1 34 = .ok (.iinc 1 (-1), 3) := by decide +kernel
theorem d_M_readValue_37 : decode mi_M_readValue.2.1 37 = .ok (.goto (-23), 3) := by decide +kernel
theorem d_M_readValue_40 : decode mi_M_readValue.2.1 40 = .ok (.aload_n 0, 1) := by decide +kernel
theorem d_M_readValue_41 : decode mi_M_readValue.2.1 41 = .ok (.getfield 66, 3) := by decide +kernel
theorem d_M_readValue_44 : decode mi_M_readValue.2.1 44 = .ok (.iload_n 1, 1) := by decide +kernel
theorem d_M_readValue_45 : decode mi_M_readValue.2.1 45 = .ok (.dup2, 1) := by decide +kernel
theorem d_M_readValue_46 : decode mi_M_readValue.2.1 46 = .ok (.iaload, 1) := by decide +kernel
theorem d_M_readValue_47 : decode mi_M_readValue.2.1 47 = .ok (.iconst 1, 1) := by decide +kernel
theorem d_M_readValue_48 : decode mi_M_readValue.2.1 48 = .ok (.isub, 1) := by decide +kernel
theorem d_M_readValue_49 : decode mi_M_readValue.2.1 49 = .ok (.iastore, 1) := by decide +kernel
theorem d_M_readValue_50 : decode mi_M_readValue.2.1 50 = .ok (.aload_n 0, 1) := by decide +kernel
theorem d_M_readValue_51 : decode mi_M_readValue.2.1 51 = .ok (.invokevirtual 164, 3) := by decide +kernel
theorem d_M_readValue_54 : decode mi_M_readValue.2.1 54 = .ok (.istore_n 2, 1) := by decide +kernel
theorem d_M_readValue_55 : decode mi_M_readValue.2.1 55 = .ok (.aload_n 0, 1) := by decide +kernel
theorem d_M_readValue_56 : decode mi_M_readValue.2.1 56 = .ok (.iload_n 2, 1) := by decide +kernel
theorem d_M_readValue_57 : decode mi_M_readValue.2.1 57 = .ok (.invokevirtual 175, 3) := by decide +kernel
theorem d_M_readValue_60 : decode mi_M_readValue.2.1 60 = .ok (.iload_n 2, 1) := by decide +kernel
theorem d_M_readValue_61 : decode mi_M_readValue.2.1 61 = .ok (.sipush 152, 3) := by decide +kernel
theorem d_M_readValue_64 : decode mi_M_readValue.2.1 64 = .ok (.if_icmp .ne 59, 3) := by decide +kernel
theorem d_M_readValue_67 : decode mi_M_readValue.2.1 67 = .ok (.aload_n 0, 1) := by decide +kernel
theorem d_M_readValue_68 : decode mi_M_readValue.2.1 68 = .ok (.iconst 4, 1) := by decide +kernel
theorem d_M_readValue_69 : decode mi_M_readValue.2.1 69 = .ok (.invokevirtual 178, 3) := by decide +kernel
theorem d_M_readValue_72 : decode mi_M_readValue.2.1 72 = .ok (.istore_n 3, 1) := by decide +kernel
theorem d_M_readValue_73 : decode mi_M_readValue.2.1 73 = .ok (.aload_n 0, 1) := by decide +kernel
theorem d_M_readValue_74 : decode mi_M_readValue.2.1 74 = .ok (.aload_n 0, 1) := by decide +kernel
theorem d_M_readValue_75 : decode mi_M_readValue.2.1 75 = .ok (.getfield 161, 3) := by decide +kernel
theorem d_M_readValue_78 : decode mi_M_readValue.2.1 78 = .ok (.ifCond .eq 16, 3) := by decide +kernel
theorem d_M_readValue_81 : decode mi_M_readValue.2.1 81 = .ok (.iload_n 3, 1) := by decide +kernel
theorem d_M_readValue_82 : decode mi_M_readValue.2.1 82 = .ok (.ifCond .lt 12, 3) := by decide +kernel
theorem d_M_readValue_85 : decode mi_M_readValue.2.1 85 = .ok (.iload_n 1, 1) := by decide +kernel
theorem d_M_readValue_86 : decode mi_M_readValue.2.1 86 = .ok (.iconst 3, 1) := by decide +kernel
theorem d_M_readValue_87 : decode mi_M_readValue.2.1 87 = .ok (.if_icmp .ge 7, 3) := by decide +kernel
theorem d_M_readValue_90 : decode mi_M_readValue.2.1 90 = .ok (.iconst 1, 1) := by decide +kernel
theorem d_M_readValue_91 : decode mi_M_readValue.2.1 91 = .ok (.goto 4, 3) := by decide +kernel
theorem d_M_readValue_94 : decode mi_M_readValue.2.1 94 = .ok (.iconst 0, 1) := by decide +kernel
theorem d_M_readValue_95 : decode mi_M_readValue.2.1 95 = .ok (.putfield 161, 3) := by decide +kernel
theorem d_M_readValue_98 : decode mi_M_readValue.2.1 98 = .ok (.aload_n 0, 1) := by decide +kernel
theorem d_M_readValue_99 : decode mi_M_readValue.2.1 99 = .ok (.getfield 161, 3) := by decide +kernel
theorem d_M_readValue_102 : decode mi_M_readValue.2.1 102 = .ok (.ifCond .eq 9, 3) := by decide +kernel
theorem d_M_readValue_105 : decode mi_M_readValue.2.1 105 = .ok (.iload_n 1, 1) := by decide +kernel
theorem d_M_readValue_106 : decode mi_M_readValue.2.1 106 = .ok (.iconst 1, 1) := by decide +kernel
theorem d_M_readValue_107 : decode mi_M_readValue.2.1 107 = .ok (.iadd, 1) := by decide +kernel
theorem d_M_readValue_108 : decode mi_M_readValue.2.1 108 = .ok (.goto 4, 3) := by decide +kernel
theorem d_M_readValue_111 : decode mi_M_readValue.2.1 111 = .ok (.iload_n 1, 1) := by decide +kernel
theorem d_M_readValue_112 : decode mi_M_readValue.2.1 112 = .ok (.istore_n 1, 1) := by decide +kernel
theorem d_M_readValue_113 : decode mi_M_readValue.2.1 113 = .ok (.aload_n 0, 1) := by decide +kernel
theorem d_M_readValue_114 : decode mi_M_readValue.2.1 114 = .ok (.getfield 66, 3) := by decide +kernel
theorem d_M_readValue_117 : decode mi_M_readValue.2.1 117 = .ok (.iload_n 1, 1) := by decide +kernel
theorem d_M_readValue_118 : decode mi_M_readValue.2.1 118 = .ok (.iload_n 3, 1) := by decide +kernel
theorem d_M_readValue_119 : decode mi_M_readValue.2.1 119 = .ok (.iastore, 1) := by decide +kernel
theorem d_M_readValue_120 : decode mi_M_readValue.2.1 120 = .ok (.goto 8, 3) := by decide +kernel
theorem d_M_readValue_123 : decode mi_M_readValue.2.1 123 = .ok (.aload_n 0, 1) := by decide +kernel
theorem d_M_readValue_124 : decode mi_M_readValue.2.1 124 = .ok (.iload_n 2, 1) := by decide +kernel
theorem d_M_readValue_125 : decode mi_M_readValue.2.1 125 = .ok (.invokevirtual 181, 3) := by decide +kernel
theorem d_M_readValue_128 : decode mi_M_readValue.2.1 128 = .ok (.goto (-114), 3) := by decide +kernel
theorem d_M_readValue_131 : decode mi_M_readValue.2.1 131 = .ok (.return_, 1) := by decide +kernel
theorem d_M_put_0 : decode mi_M_put.2.1 0 = .ok (.aload_n 0, 1) := by decide +kernel
theorem d_M_put_1 : decode mi_M_put.2.1 1 = .ok (.getfield 125, 3) := by decide +kernel
theorem d_M_put_4 : decode mi_M_put.2.1 4 = .ok (.bipush 64, 2) := by decide +kernel
theorem d_M_put_6 : decode mi_M_put.2.1 6 = .ok (.if_icmp .ge 23, 3) := by decide +kernel
theorem d_M_put_9 : decode mi_M_put.2.1 9 = .ok (.aload_n 0, 1) := by decide +kernel
theorem d_M_put_10 : decode mi_M_put.2.1 10 = .ok (.getfield 63, 3) := by decide +kernel
theorem d_M_put_13 : decode mi_M_put.2.1 13 = .ok (.aload_n 0, 1) := by decide +kernel
theorem d_M_put_14 : decode mi_M_put.2.1 14 = .ok (.getfield 125, 3) := by decide +kernel
theorem d_M_put_17 : decode mi_M_put.2.1 17 = .ok (.iload_n 1, 1) := by decide +kernel
theorem d_M_put_18 : decode mi_M_put.2.1 18 = .ok (.iastore, 1) := by decide +kernel
theorem d_M_put_19 : decode mi_M_put.2.1 19 = .ok (.aload_n 0, 1) := by decide +kernel
theorem d_M_put_20 : decode mi_M_put.2.1 20 = .ok (.dup, 1) := by decide +kernel
theorem d_M_put_21 : decode mi_M_put.2.1 21 = .ok (.getfield 125, 3) := by decide +kernel
theorem d_M_put_24 : decode mi_M_put.2.1 24 = .ok (.iconst 1, 1) := by decide +kernel
theorem d_M_put_25 : decode mi_M_put.2.1 25 = .ok (.iadd, 1) := by decide +kernel
theorem d_M_put_26 : decode mi_M_put.2.1 26 = .ok (.putfield 125, 3) := by decide +kernel
theorem d_M_put_29 : decode mi_M_put.2.1 29 = .ok (.return_, 1) := by decide +kernel
theorem d_M_putNumber_0 : decode mi_M_putNumber.2.1 0 = .ok (.iconst 0, 1) := by decide +kernel
theorem d_M_putNumber_1 : decode mi_M_putNumber.2.1 1 = .ok (.istore_n 2, 1) := by decide +kernel
theorem d_M_putNumber_2 : decode mi_M_putNumber.2.1 2 = .ok (.iconst 0, 1) := by decide +kernel
theorem d_M_putNumber_3 : decode mi_M_putNumber.2.1 3 = .ok (.istore_n 3, 1) := by decide +kernel
theorem d_M_putNumber_4 : decode mi_M_putNumber.2.1 4 = .ok (.iload_n 3, 1) := by decide +kernel
theorem d_M_putNumber_5 : decode mi_M_putNumber.2.1 5 = .ok (.iload_n 1, 1) := by decide +kernel
theorem d_M_putNumber_6 : decode mi_M_putNumber.2.1 6 = .ok (.if_icmp .ge 40, 3) := by decide +kernel
theorem d_M_putNumber_9 : decode mi_M_putNumber.2.1 9 = .ok (.aload_n 0, 1) := by decide +kernel
theorem d_M_putNumber_10 : decode mi_M_putNumber.2.1 10 = .ok (.invokevirtual 164, 3) := by decide +kernel
theorem d_M_putNumber_13 : decode mi_M_putNumber.2.1 13 = .ok (.istore 4, 2) := by decide +kernel
theorem d_M_putNumber_15 : decode mi_M_putNumber.2.1 15 = .ok (.aload_n 0, 1) := by decide +kernel
theorem d_M_putNumber_16 : decode mi_M_putNumber.2.1 16 = .ok (.iload 4, 2) := by decide +kernel
theorem d_M_putNumber_18 : decode mi_M_putNumber.2.1 18 = .ok (.invokevirtual 175, 3) := by decide +kernel
theorem d_M_putNumber_21 : decode mi_M_putNumber.2.1 21 = .ok (.iload_n 3, 1) := by decide +kernel
theorem d_M_putNumber_22 : decode mi_M_putNumber.2.1 22 = .ok (.iconst 4, 1) := by decide +kernel
theorem d_M_putNumber_23 : decode mi_M_putNumber.2.1 23 = .ok (.if_icmp .ge 15, 3) := by decide +kernel
theorem d_M_putNumber_26 : decode mi_M_putNumber.2.1 26 = .ok (.iload_n 2, 1) := by decide +kernel
theorem d_M_putNumber_27 : decode mi_M_putNumber.2.1 27 = .ok (.iload 4, 2) := by decide +kernel
theorem d_M_putNumber_29 : decode mi_M_putNumber.2.1 29 = .ok (.bipush 8, 2) := by decide +kernel
theorem d_M_putNumber_31 : decode mi_M_putNumber.2.1 31 = .ok (.iload_n 3, 1) := by decide +kernel
theorem d_M_putNumber_32 : decode mi_M_putNumber.2.1 32 = .ok (.imul, 1) := by decide +kernel
theorem d_M_putNumber_33 : decode mi_M_putNumber.2.1 33 = .ok (.ishl, 1) := by decide +kernel
theorem d_M_putNumber_34 : decode mi_M_putNumber.2.1 34 = .ok (.ior, 1) := by decide +kernel
theorem d_M_putNumber_35 : decode mi_M_putNumber.2.1 35 = .ok (.goto 4, 3) := by decide +kernel
theorem d_M_putNumber_38 : decode mi_M_putNumber.2.1 38 = .ok (.iload_n 2, 1) := by decide +kernel
theorem d_M_putNumber_39 : decode mi_M_putNumber.2.1 39 = .ok (.istore_n 2, 1) := by decide +kernel
theorem d_M_putNumber_40 : decode mi_M_putNumber.2.1 40 = .ok (.iinc 3 1, 3) := by decide +kernel
theorem d_M_putNumber_43 : decode mi_M_putNumber.2.1 43 = .ok (.goto (-39), 3) := by decide +kernel
theorem d_M_putNumber_46 : decode mi_M_putNumber.2.1 46 = .ok (.iload_n 2, 1) := by decide +kernel
theorem d_M_putNumber_47 : decode mi_M_putNumber.2.1 47 = .ok (.ireturn, 1) := by decide +kernel
theorem d_M_readPlain_0 : decode mi_M_readPlain.2.1 0 = .ok (.iload_n 1, 1) := by decide +kernel
theorem d_M_readPlain_1 : decode mi_M_readPlain.2.1 1 = .ok (.iconst 1, 1) := by decide +kernel
theorem d_M_readPlain_2 : decode mi_M_readPlain.2.1 2 = .ok (.if_icmp .ne 25, 3) := by decide +kernel
theorem d_M_readPlain_5 : decode mi_M_readPlain.2.1 5 = .ok (.aload_n 0, 1) := by decide +kernel
theorem d_M_readPlain_6 : decode mi_M_readPlain.2.1 6 = .ok (.invokevirtual 164, 3) := by decide +kernel
theorem d_M_readPlain_9 : decode mi_M_readPlain.2.1 9 = .ok (.istore_n 2, 1) := by decide +kernel
theorem d_M_readPlain_10 : decode mi_M_readPlain.2.1 10 = .ok (.aload_n 0, 1) := by decide +kernel
theorem d_M_readPlain_11 : decode mi_M_readPlain.2.1 11 = .ok (.iload_n 2, 1) := by decide +kernel
theorem d_M_readPlain_12 : decode mi_M_readPlain.2.1 12 = .ok (.iconst 1, 1) := by decide +kernel
theorem d_M_readPlain_13 : decode mi_M_readPlain.2.1 13 = .ok (.if_icmp .le 7, 3) := by decide +kernel
theorem d_M_readPlain_16 : decode mi_M_readPlain.2.1 16 = .ok (.iconst 1, 1) := by decide +kernel
theorem d_M_readPlain_17 : decode mi_M_readPlain.2.1 17 = .ok (.goto 4, 3) := by decide +kernel
theorem d_M_readPlain_20 : decode mi_M_readPlain.2.1 20 = .ok (.iload_n 2, 1) := by decide +kernel
theorem d_M_readPlain_21 : decode mi_M_readPlain.2.1 21 = .ok (.invokevirtual 175, 3) := by decide +kernel
theorem d_M_readPlain_24 : decode mi_M_readPlain.2.1 24 = .ok (.goto 119, 3) := by decide +kernel
theorem d_M_readPlain_27 : decode mi_M_readPlain.2.1 27 = .ok (.iload_n 1, 1) := by decide +kernel
theorem d_M_readPlain_28 : decode mi_M_readPlain.2.1 28 = .ok (.bipush 6, 2) := by decide +kernel
theorem d_M_readPlain_30 : decode mi_M_readPlain.2.1 30 = .ok (.if_icmp .eq 9, 3) := by decide +kernel
theorem d_M_readPlain_33 : decode mi_M_readPlain.2.1 33 = .ok (.iload_n 1, 1) := by decide +kernel
theorem d_M_readPlain_34 : decode mi_M_readPlain.2.1 34 = .ok (.bipush 8, 2) := by decide +kernel
theorem d_M_readPlain_36 : decode mi_M_readPlain.2.1 36 = .ok (.if_icmp .ne 23, 3) := by decide +kernel
theorem d_M_readPlain_39 : decode mi_M_readPlain.2.1 39 = .ok (.aload_n 0, 1) := by decide +kernel
theorem d_M_readPlain_40 : decode mi_M_readPlain.2.1 40 = .ok (.iload_n 1, 1) := by decide +kernel
theorem d_M_readPlain_41 : decode mi_M_readPlain.2.1 41 = .ok (.bipush 6, 2) := by decide +kernel
theorem d_M_readPlain_43 : decode mi_M_readPlain.2.1 43 = .ok (.if_icmp .ne 7, 3) := by decide +kernel
theorem d_M_readPlain_46 : decode mi_M_readPlain.2.1 46 = .ok (.iconst 4, 1) := by decide +kernel
theorem d_M_readPlain_47 : decode mi_M_readPlain.2.1 47 = .ok (.goto 5, 3) := by decide +kernel
theorem d_M_readPlain_50 : decode mi_M_readPlain.2.1 50 = .ok (.bipush 8, 2) := by decide +kernel
theorem d_M_readPlain_52 : decode mi_M_readPlain.2.1 52 = .ok (.invokevirtual 178, 3) := by decide +kernel
theorem d_M_readPlain_55 : decode mi_M_readPlain.2.1 55 = .ok (.pop, 1) := by decide +kernel
theorem d_M_readPlain_56 : decode mi_M_readPlain.2.1 56 = .ok (.goto 87, 3) := by decide +kernel
theorem d_M_readPlain_59 : decode mi_M_readPlain.2.1 59 = .ok (.iload_n 1, 1) := by decide +kernel
theorem d_M_readPlain_60 : decode mi_M_readPlain.2.1 60 = .ok (.bipush 12, 2) := by decide +kernel
theorem d_M_readPlain_62 : decode mi_M_readPlain.2.1 62 = .ok (.if_icmp .ne 61, 3) := by decide +kernel
theorem d_M_readPlain_65 : decode mi_M_readPlain.2.1 65 = .ok (.aload_n 0, 1) := by decide +kernel
theorem d_M_readPlain_66 : decode mi_M_readPlain.2.1 66 = .ok (.iconst 4, 1) := by decide +kernel
theorem d_M_readPlain_67 : decode mi_M_readPlain.2.1 67 = .ok (.invokevirtual 178, 3) := by decide +kernel
theorem d_M_readPlain_70 : decode mi_M_readPlain.2.1 70 = .ok (.istore_n 2, 1) := by decide +kernel
theorem d_M_readPlain_71 : decode mi_M_readPlain.2.1 71 = .ok (.aload_n 0, 1) := by decide +kernel
theorem d_M_readPlain_72 : decode mi_M_readPlain.2.1 72 = .ok (.aload_n 0, 1) := by decide +kernel
theorem d_M_readPlain_73 : decode mi_M_readPlain.2.1 73 = .ok (.getfield 161, 3) := by decide +kernel
theorem d_M_readPlain_76 : decode mi_M_readPlain.2.1 76 = .ok (.ifCond .eq 12, 3) := by decide +kernel
theorem d_M_readPlain_79 : decode mi_M_readPlain.2.1 79 = .ok (.iload_n 2, 1) := by decide +kernel
theorem d_M_readPlain_80 : decode mi_M_readPlain.2.1 80 = .ok (.iconst (-1), 1) := by decide +kernel
theorem d_M_readPlain_81 : decode mi_M_readPlain.2.1 81 = .ok (.if_icmp .lt 7, 3) := by decide +kernel
theorem d_M_readPlain_84 : decode mi_M_readPlain.2.1 84 = .ok (.iconst 1, 1) := by decide +kernel
theorem d_M_readPlain_85 : decode mi_M_readPlain.2.1 85 = .ok (.goto 4, 3) := by decide +kernel
theorem d_M_readPlain_88 : decode mi_M_readPlain.2.1 88 = .ok (.iconst 0, 1) := by decide +kernel
theorem d_M_readPlain_89 : decode mi_M_readPlain.2.1 89 = .ok (.putfield 161, 3) := by decide +kernel
theorem d_M_readPlain_92 : decode mi_M_readPlain.2.1 92 = .ok (.iconst 0, 1) := by decide +kernel
theorem d_M_readPlain_93 : decode mi_M_readPlain.2.1 93 = .ok (.istore_n 3, 1) := by decide +kernel
theorem d_M_readPlain_94 : decode mi_M_readPlain.2.1 94 = .ok (.iload_n 3, 1) := by decide +kernel
theorem d_M_readPlain_95 : decode mi_M_readPlain.2.1 95 = .ok (.iload_n 2, 1) := by decide +kernel
theorem d_M_readPlain_96 : decode mi_M_readPlain.2.1 96 = .ok (.if_icmp .ge 24, 3) := by decide +kernel
theorem d_M_readPlain_99 : decode mi_M_readPlain.2.1 99 = .ok (.aload_n 0, 1) := by decide +kernel
theorem d_M_readPlain_100 : decode mi_M_readPlain.2.1 100 = .ok (.getfield 161, 3) := by decide +kernel
theorem d_M_readPlain_103 : decode mi_M_readPlain.2.1 103 = .ok (.ifCond .eq 17, 3) := by decide +kernel
theorem d_M_readPlain_106 : decode mi_M_readPlain.2.1 106 = .ok (.aload_n 0, 1) := by decide +kernel
theorem d_M_readPlain_107 : decode mi_M_readPlain.2.1 107 = .ok (.aload_n 0, 1) := by decide +kernel
theorem d_M_readPlain_108 : decode mi_M_readPlain.2.1 108 = .ok (.invokevirtual 164, 3) := by decide +kernel
theorem d_M_readPlain_111 : decode mi_M_readPlain.2.1 111 = .ok (.invokevirtual 175, 3) := by decide +kernel
theorem d_M_readPlain_114 : decode mi_M_readPlain.2.1 114 = .ok (.iinc 3 1, 3) := by decide +kernel
theorem d_M_readPlain_117 : decode mi_M_readPlain.2.1 117 = .ok (.goto (-23), 3) := by decide +kernel
theorem d_M_readPlain_120 : decode mi_M_readPlain.2.1 120 = .ok (.goto 23, 3) := by decide +kernel
theorem d_M_readPlain_123 : decode mi_M_readPlain.2.1 123 = .ok (.aload_n 0, 1) := by decide +kernel
theorem d_M_readPlain_124 : decode mi_M_readPlain.2.1 124 = .ok (.aload_n 0, 1) := by decide +kernel
theorem d_M_readPlain_125 : decode mi_M_readPlain.2.1 125 = .ok (.getfield 161, 3) := by decide +kernel
theorem d_M_readPlain_128 : decode mi_M_readPlain.2.1 128 = .ok (.ifCond .eq 11, 3) := by decide +kernel
theorem d_M_readPlain_131 : decode mi_M_readPlain.2.1 131 = .ok (.iload_n 1, 1) := by decide +kernel
theorem d_M_readPlain_132 : decode mi_M_readPlain.2.1 132 = .ok (.ifCond .ne 7, 3) := by decide +kernel
theorem d_M_readPlain_135 : decode mi_M_readPlain.2.1 135 = .ok (.iconst 1, 1) := by decide +kernel
theorem d_M_readPlain_136 : decode mi_M_readPlain.2.1 136 = .ok (.goto 4, 3) := by decide +kernel
theorem d_M_readPlain_139 : decode mi_M_readPlain.2.1 139 = .ok (.iconst 0, 1) := by decide +kernel
theorem d_M_readPlain_140 : decode mi_M_readPlain.2.1 140 = .ok (.putfield 161, 3) := by decide +kernel
theorem d_M_readPlain_143 : decode mi_M_readPlain.2.1 143 = .ok (.return_, 1) := by decide +kernel
theorem d_M_browse_0 : decode mi_M_browse.2.1 0 = .ok (.aload_n 0, 1) := by decide +kernel
theorem d_M_browse_1 : decode mi_M_browse.2.1 1 = .ok (.invokevirtual 208, 3) := by decide +kernel
theorem d_M_browse_4 : decode mi_M_browse.2.1 4 = .ok (.aload_n 0, 1) := by decide +kernel
theorem d_M_browse_5 : decode mi_M_browse.2.1 5 = .ok (.invokevirtual 164, 3) := by decide +kernel
theorem d_M_browse_8 : decode mi_M_browse.2.1 8 = .ok (.istore_n 1, 1) := by decide +kernel
theorem d_M_browse_9 : decode mi_M_browse.2.1 9 = .ok (.aload_n 0, 1) := by decide +kernel
theorem d_M_browse_10 : decode mi_M_browse.2.1 10 = .ok (.invokevirtual 211, 3) := by decide +kernel
theorem d_M_browse_13 : decode mi_M_browse.2.1 13 = .ok (.ifCond .eq 8, 3) := by decide +kernel
theorem d_M_browse_16 : decode mi_M_browse.2.1 16 = .ok (.iload_n 1, 1) := by decide +kernel
theorem d_M_browse_17 : decode mi_M_browse.2.1 17 = .ok (.iconst 1, 1) := by decide +kernel
theorem d_M_browse_18 : decode mi_M_browse.2.1 18 = .ok (.if_icmp .le 4, 3) := by decide +kernel
theorem d_M_browse_21 : decode mi_M_browse.2.1 21 = .ok (.return_, 1) := by decide +kernel
theorem d_M_browse_22 : decode mi_M_browse.2.1 22 = .ok (.aload_n 0, 1) := by decide +kernel
theorem d_M_browse_23 : decode mi_M_browse.2.1 23 = .ok (.getfield 168, 3) := by decide +kernel
theorem d_M_browse_26 : decode mi_M_browse.2.1 26 = .ok (.ifCond .ge 9, 3) := by decide +kernel
theorem d_M_browse_29 : decode mi_M_browse.2.1 29 = .ok (.aload_n 0, 1) := by decide +kernel
theorem d_M_browse_30 : decode mi_M_browse.2.1 30 = .ok (.iconst 3, 1) := by decide +kernel
theorem d_M_browse_31 : decode mi_M_browse.2.1 31 = .ok (.invokevirtual 187, 3) := by decide +kernel
theorem d_M_browse_34 : decode mi_M_browse.2.1 34 = .ok (.return_, 1) := by decide +kernel
theorem d_M_browse_35 : decode mi_M_browse.2.1 35 = .ok (.aload_n 0, 1) := by decide +kernel
theorem d_M_browse_36 : decode mi_M_browse.2.1 36 = .ok (.iconst 0, 1) := by decide +kernel
theorem d_M_browse_37 : decode mi_M_browse.2.1 37 = .ok (.invokevirtual 187, 3) := by decide +kernel
theorem d_M_browse_40 : decode mi_M_browse.2.1 40 = .ok (.aload_n 0, 1) := by decide +kernel
theorem d_M_browse_41 : decode mi_M_browse.2.1 41 = .ok (.iconst 0, 1) := by decide +kernel
theorem d_M_browse_42 : decode mi_M_browse.2.1 42 = .ok (.invokevirtual 184, 3) := by decide +kernel
theorem d_M_browse_45 : decode mi_M_browse.2.1 45 = .ok (.iconst 0, 1) := by decide +kernel
theorem d_M_browse_46 : decode mi_M_browse.2.1 46 = .ok (.istore_n 2, 1) := by decide +kernel
theorem d_M_browse_47 : decode mi_M_browse.2.1 47 = .ok (.iload_n 2, 1) := by decide +kernel
theorem d_M_browse_48 : decode mi_M_browse.2.1 48 = .ok (.aload_n 0, 1) := by decide +kernel
theorem d_M_browse_49 : decode mi_M_browse.2.1 49 = .ok (.getfield 7, 3) := by decide +kernel
theorem d_M_browse_52 : decode mi_M_browse.2.1 52 = .ok (.if_icmp .ge 66, 3) := by decide +kernel
theorem d_M_browse_55 : decode mi_M_browse.2.1 55 = .ok (.iload_n 1, 1) := by decide +kernel
theorem d_M_browse_56 : decode mi_M_browse.2.1 56 = .ok (.ifCond .ne 23, 3) := by decide +kernel
theorem d_M_browse_59 : decode mi_M_browse.2.1 59 = .ok (.iload_n 2, 1) := by decide +kernel
theorem d_M_browse_60 : decode mi_M_browse.2.1 60 = .ok (.ifCond .le 52, 3) := by decide +kernel
theorem d_M_browse_63 : decode mi_M_browse.2.1 63 = .ok (.aload_n 0, 1) := by decide +kernel
theorem d_M_browse_64 : decode mi_M_browse.2.1 64 = .ok (.getfield 13, 3) := by decide +kernel
theorem d_M_browse_67 : decode mi_M_browse.2.1 67 = .ok (.iload_n 2, 1) := by decide +kernel
theorem d_M_browse_68 : decode mi_M_browse.2.1 68 = .ok (.iaload, 1) := by decide +kernel
theorem d_M_browse_69 : decode mi_M_browse.2.1 69 = .ok (.aload_n 0, 1) := by decide +kernel
theorem d_M_browse_70 : decode mi_M_browse.2.1 70 = .ok (.getfield 168, 3) := by decide +kernel
theorem d_M_browse_73 : decode mi_M_browse.2.1 73 = .ok (.if_icmp .ne 39, 3) := by decide +kernel
theorem d_M_browse_76 : decode mi_M_browse.2.1 76 = .ok (.goto 16, 3) := by decide +kernel
theorem d_M_browse_79 : decode mi_M_browse.2.1 79 = .ok (.aload_n 0, 1) := by decide +kernel
theorem d_M_browse_80 : decode mi_M_browse.2.1 80 = .ok (.getfield 13, 3) := by decide +kernel
theorem d_M_browse_83 : decode mi_M_browse.2.1 83 = .ok (.aload_n 0, 1) := by decide +kernel
theorem d_M_browse_84 : decode mi_M_browse.2.1 84 = .ok (.getfield 168, 3) := by decide +kernel
theorem d_M_browse_87 : decode mi_M_browse.2.1 87 = .ok (.iaload, 1) := by decide +kernel
theorem d_M_browse_88 : decode mi_M_browse.2.1 88 = .ok (.iload_n 2, 1) := by decide +kernel
theorem d_M_browse_89 : decode mi_M_browse.2.1 89 = .ok (.if_icmp .ne 23, 3) := by decide +kernel
theorem d_M_browse_92 : decode mi_M_browse.2.1 92 = .ok (.aload_n 0, 1) := by decide +kernel
theorem d_M_browse_93 : decode mi_M_browse.2.1 93 = .ok (.getfield 69, 3) := by decide +kernel
theorem d_M_browse_96 : decode mi_M_browse.2.1 96 = .ok (.iconst 1, 1) := by decide +kernel
theorem d_M_browse_97 : decode mi_M_browse.2.1 97 = .ok (.dup2, 1) := by decide +kernel
theorem d_M_browse_98 : decode mi_M_browse.2.1 98 = .ok (.iaload, 1) := by decide +kernel
theorem d_M_browse_99 : decode mi_M_browse.2.1 99 = .ok (.iconst 1, 1) := by decide +kernel
theorem d_M_browse_100 : decode mi_M_browse.2.1 100 = .ok (.iadd, 1) := by decide +kernel
theorem d_M_browse_101 : decode mi_M_browse.2.1 101 = .ok (.iastore, 1) := by decide +kernel
theorem d_M_browse_102 : decode mi_M_browse.2.1 102 = .ok (.aload_n 0, 1) := by decide +kernel
theorem d_M_browse_103 : decode mi_M_browse.2.1 103 = .ok (.iconst 0, 1) := by decide +kernel
theorem d_M_browse_104 : decode mi_M_browse.2.1 104 = .ok (.invokevirtual 184, 3) := by decide +kernel
theorem d_M_browse_107 : decode mi_M_browse.2.1 107 = .ok (.aload_n 0, 1) := by decide +kernel
theorem d_M_browse_108 : decode mi_M_browse.2.1 108 = .ok (.iload_n 2, 1) := by decide +kernel
theorem d_M_browse_109 : decode mi_M_browse.2.1 109 = .ok (.invokevirtual 184, 3) := by decide +kernel
theorem d_M_browse_112 : decode mi_M_browse.2.1 112 = .ok (.iinc 2 1, 3) := by decide +kernel
theorem d_M_browse_115 : decode mi_M_browse.2.1 115 = .ok (.goto (-68), 3) := by decide +kernel
theorem d_M_browse_118 : decode mi_M_browse.2.1 118 = .ok (.return_, 1) := by decide +kernel
theorem d_M_watch_0 : decode mi_M_watch.2.1 0 = .ok (.aload_n 0, 1) := by decide +kernel
theorem d_M_watch_1 : decode mi_M_watch.2.1 1 = .ok (.invokevirtual 208, 3) := by decide +kernel
theorem d_M_watch_4 : decode mi_M_watch.2.1 4 = .ok (.aload_n 0, 1) := by decide +kernel
theorem d_M_watch_5 : decode mi_M_watch.2.1 5 = .ok (.invokevirtual 164, 3) := by decide +kernel
theorem d_M_watch_8 : decode mi_M_watch.2.1 8 = .ok (.istore_n 1, 1) := by decide +kernel
theorem d_M_watch_9 : decode mi_M_watch.2.1 9 = .ok (.aload_n 0, 1) := by decide +kernel
theorem d_M_watch_10 : decode mi_M_watch.2.1 10 = .ok (.invokevirtual 164, 3) := by decide +kernel
theorem d_M_watch_13 : decode mi_M_watch.2.1 13 = .ok (.istore_n 2, 1) := by decide +kernel
theorem d_M_watch_14 : decode mi_M_watch.2.1 14 = .ok (.aload_n 0, 1) := by decide +kernel
theorem d_M_watch_15 : decode mi_M_watch.2.1 15 = .ok (.invokevirtual 211, 3) := by decide +kernel
theorem d_M_watch_18 : decode mi_M_watch.2.1 18 = .ok (.ifCond .ne 4, 3) := by decide +kernel
theorem d_M_watch_21 : decode mi_M_watch.2.1 21 = .ok (.return_, 1) := by decide +kernel
theorem d_M_watch_22 : decode mi_M_watch.2.1 22 = .ok (.aload_n 0, 1) := by decide +kernel
theorem d_M_watch_23 : decode mi_M_watch.2.1 23 = .ok (.getfield 168, 3) := by decide +kernel
theorem d_M_watch_26 : decode mi_M_watch.2.1 26 = .ok (.ifCond .lt 15, 3) := by decide +kernel
theorem d_M_watch_29 : decode mi_M_watch.2.1 29 = .ok (.aload_n 0, 1) := by decide +kernel
theorem d_M_watch_30 : decode mi_M_watch.2.1 30 = .ok (.getfield 17, 3) := by decide +kernel
theorem d_M_watch_33 : decode mi_M_watch.2.1 33 = .ok (.aload_n 0, 1) := by decide +kernel
theorem d_M_watch_34 : decode mi_M_watch.2.1 34 = .ok (.getfield 168, 3) := by decide +kernel
theorem d_M_watch_37 : decode mi_M_watch.2.1 37 = .ok (.baload, 1) := by decide +kernel
theorem d_M_watch_38 : decode mi_M_watch.2.1 38 = .ok (.ifCond .ne 20, 3) := by decide +kernel
theorem d_M_watch_41 : decode mi_M_watch.2.1 41 = .ok (.aload_n 0, 1) := by decide +kernel
theorem d_M_watch_42 : decode mi_M_watch.2.1 42 = .ok (.aload_n 0, 1) := by decide +kernel
theorem d_M_watch_43 : decode mi_M_watch.2.1 43 = .ok (.getfield 168, 3) := by decide +kernel
theorem d_M_watch_46 : decode mi_M_watch.2.1 46 = .ok (.ifCond .ge 7, 3) := by decide +kernel
theorem d_M_watch_49 : decode mi_M_watch.2.1 49 = .ok (.iconst 3, 1) := by decide +kernel
theorem d_M_watch_50 : decode mi_M_watch.2.1 50 = .ok (.goto 4, 3) := by decide +kernel
theorem d_M_watch_53 : decode mi_M_watch.2.1 53 = .ok (.iconst 4, 1) := by decide +kernel
theorem d_M_watch_54 : decode mi_M_watch.2.1 54 = .ok (.invokevirtual 187, 3) := by decide +kernel
theorem d_M_watch_57 : decode mi_M_watch.2.1 57 = .ok (.return_, 1) := by decide +kernel
theorem d_M_watch_58 : decode mi_M_watch.2.1 58 = .ok (.aload_n 0, 1) := by decide +kernel
theorem d_M_watch_59 : decode mi_M_watch.2.1 59 = .ok (.getfield 82, 3) := by decide +kernel
theorem d_M_watch_62 : decode mi_M_watch.2.1 62 = .ok (.bipush 6, 2) := by decide +kernel
theorem d_M_watch_64 : decode mi_M_watch.2.1 64 = .ok (.if_icmp .ne 10, 3) := by decide +kernel
theorem d_M_watch_67 : decode mi_M_watch.2.1 67 = .ok (.aload_n 0, 1) := by decide +kernel
theorem d_M_watch_68 : decode mi_M_watch.2.1 68 = .ok (.bipush 6, 2) := by decide +kernel
theorem d_M_watch_70 : decode mi_M_watch.2.1 70 = .ok (.invokevirtual 187, 3) := by decide +kernel
theorem d_M_watch_73 : decode mi_M_watch.2.1 73 = .ok (.return_, 1) := by decide +kernel
theorem d_M_watch_74 : decode mi_M_watch.2.1 74 = .ok (.aload_n 0, 1) := by decide +kernel
theorem d_M_watch_75 : decode mi_M_watch.2.1 75 = .ok (.getfield 30, 3) := by decide +kernel
theorem d_M_watch_78 : decode mi_M_watch.2.1 78 = .ok (.aload_n 0, 1) := by decide +kernel
theorem d_M_watch_79 : decode mi_M_watch.2.1 79 = .ok (.getfield 82, 3) := by decide +kernel
theorem d_M_watch_82 : decode mi_M_watch.2.1 82 = .ok (.aload_n 0, 1) := by decide +kernel
theorem d_M_watch_83 : decode mi_M_watch.2.1 83 = .ok (.getfield 168, 3) := by decide +kernel
theorem d_M_watch_86 : decode mi_M_watch.2.1 86 = .ok (.iastore, 1) := by decide +kernel
theorem d_M_watch_87 : decode mi_M_watch.2.1 87 = .ok (.aload_n 0, 1) := by decide +kernel
theorem d_M_watch_88 : decode mi_M_watch.2.1 88 = .ok (.getfield 33, 3) := by decide +kernel
theorem d_M_watch_91 : decode mi_M_watch.2.1 91 = .ok (.aload_n 0, 1) := by decide +kernel
theorem d_M_watch_92 : decode mi_M_watch.2.1 92 = .ok (.getfield 82, 3) := by decide +kernel
theorem d_M_watch_95 : decode mi_M_watch.2.1 95 = .ok (.iload_n 1, 1) := by decide +kernel
theorem d_M_watch_96 : decode mi_M_watch.2.1 96 = .ok (.ifCond .ne 7, 3) := by decide +kernel
theorem d_M_watch_99 : decode mi_M_watch.2.1 99 = .ok (.iconst 1, 1) := by decide +kernel
theorem d_M_watch_100 : decode mi_M_watch.2.1 100 = .ok (.goto 13, 3) := by decide +kernel
theorem d_M_watch_103 : decode mi_M_watch.2.1 103 = .ok (.iload_n 1, 1) := by decide +kernel
theorem d_M_watch_104 : decode mi_M_watch.2.1 104 = .ok (.iconst 4, 1) := by decide +kernel
theorem d_M_watch_105 : decode mi_M_watch.2.1 105 = .ok (.if_icmp .le 7, 3) := by decide +kernel
theorem d_M_watch_108 : decode mi_M_watch.2.1 108 = .ok (.iconst 4, 1) := by decide +kernel
theorem d_M_watch_109 : decode mi_M_watch.2.1 109 = .ok (.goto 4, 3) := by decide +kernel
theorem d_M_watch_112 : decode mi_M_watch.2.1 112 = .ok (.iload_n 1, 1) := by decide +kernel
theorem d_M_watch_113 : decode mi_M_watch.2.1 113 = .ok (.iastore, 1) := by decide +kernel
theorem d_M_watch_114 : decode mi_M_watch.2.1 114 = .ok (.aload_n 0, 1) := by decide +kernel
theorem d_M_watch_115 : decode mi_M_watch.2.1 115 = .ok (.getfield 36, 3) := by decide +kernel
theorem d_M_watch_118 : decode mi_M_watch.2.1 118 = .ok (.aload_n 0, 1) := by decide +kernel
theorem d_M_watch_119 : decode mi_M_watch.2.1 119 = .ok (.getfield 82, 3) := by decide +kernel
theorem d_M_watch_122 : decode mi_M_watch.2.1 122 = .ok (.iload_n 2, 1) := by decide +kernel
theorem d_M_watch_123 : decode mi_M_watch.2.1 123 = .ok (.ifCond .eq 7, 3) := by decide +kernel
theorem d_M_watch_126 : decode mi_M_watch.2.1 126 = .ok (.iconst 1, 1) := by decide +kernel
theorem d_M_watch_127 : decode mi_M_watch.2.1 127 = .ok (.goto 4, 3) := by decide +kernel
theorem d_M_watch_130 : decode mi_M_watch.2.1 130 = .ok (.iconst 0, 1) := by decide +kernel
theorem d_M_watch_131 : decode mi_M_watch.2.1 131 = .ok (.bastore, 1) := by decide +kernel
theorem d_M_watch_132 : decode mi_M_watch.2.1 132 = .ok (.aload_n 0, 1) := by decide +kernel
theorem d_M_watch_133 : decode mi_M_watch.2.1 133 = .ok (.getfield 39, 3) := by decide +kernel
theorem d_M_watch_136 : decode mi_M_watch.2.1 136 = .ok (.aload_n 0, 1) := by decide +kernel
theorem d_M_watch_137 : decode mi_M_watch.2.1 137 = .ok (.getfield 82, 3) := by decide +kernel
theorem d_M_watch_140 : decode mi_M_watch.2.1 140 = .ok (.iconst 0, 1) := by decide +kernel
theorem d_M_watch_141 : decode mi_M_watch.2.1 141 = .ok (.iastore, 1) := by decide +kernel
theorem d_M_watch_142 : decode mi_M_watch.2.1 142 = .ok (.aload_n 0, 1) := by decide +kernel
theorem d_M_watch_143 : decode mi_M_watch.2.1 143 = .ok (.aload_n 0, 1) := by decide +kernel
theorem d_M_watch_144 : decode mi_M_watch.2.1 144 = .ok (.getfield 82, 3) := by decide +kernel
theorem d_M_watch_147 : decode mi_M_watch.2.1 147 = .ok (.aload_n 0, 1) := by decide +kernel
theorem d_M_watch_148 : decode mi_M_watch.2.1 148 = .ok (.getfield 168, 3) := by decide +kernel
theorem d_M_watch_151 : decode mi_M_watch.2.1 151 = .ok (.iconst 0, 1) := by decide +kernel
theorem d_M_watch_152 : decode mi_M_watch.2.1 152 = .ok (.invokevirtual 121, 3) := by decide +kernel
theorem d_M_watch_155 : decode mi_M_watch.2.1 155 = .ok (.aload_n 0, 1) := by decide +kernel
theorem d_M_watch_156 : decode mi_M_watch.2.1 156 = .ok (.dup, 1) := by decide +kernel
theorem d_M_watch_157 : decode mi_M_watch.2.1 157 = .ok (.getfield 82, 3) := by decide +kernel
theorem d_M_watch_160 : decode mi_M_watch.2.1 160 = .ok (.iconst 1, 1) := by decide +kernel
theorem d_M_watch_161 : decode mi_M_watch.2.1 161 = .ok (.iadd, 1) := by decide +kernel
theorem d_M_watch_162 : decode mi_M_watch.2.1 162 = .ok (.putfield 82, 3) := by decide +kernel
theorem d_M_watch_165 : decode mi_M_watch.2.1 165 = .ok (.aload_n 0, 1) := by decide +kernel
theorem d_M_watch_166 : decode mi_M_watch.2.1 166 = .ok (.iconst 0, 1) := by decide +kernel
theorem d_M_watch_167 : decode mi_M_watch.2.1 167 = .ok (.invokevirtual 187, 3) := by decide +kernel
theorem d_M_watch_170 : decode mi_M_watch.2.1 170 = .ok (.aload_n 0, 1) := by decide +kernel
theorem d_M_watch_171 : decode mi_M_watch.2.1 171 = .ok (.aload_n 0, 1) := by decide +kernel
theorem d_M_watch_172 : decode mi_M_watch.2.1 172 = .ok (.getfield 82, 3) := by decide +kernel
theorem d_M_watch_175 : decode mi_M_watch.2.1 175 = .ok (.iconst 1, 1) := by decide +kernel
theorem d_M_watch_176 : decode mi_M_watch.2.1 176 = .ok (.isub, 1) := by decide +kernel
theorem d_M_watch_177 : decode mi_M_watch.2.1 177 = .ok (.invokevirtual 184, 3) := by decide +kernel
theorem d_M_watch_180 : decode mi_M_watch.2.1 180 = .ok (.return_, 1) := by decide +kernel
theorem d_M_publish_0 : decode mi_M_publish.2.1 0 = .ok (.aload_n 0, 1) := by decide +kernel
theorem d_M_publish_1 : decode mi_M_publish.2.1 1 = .ok (.invokevirtual 164, 3) := by decide +kernel
theorem d_M_publish_4 : decode mi_M_publish.2.1 4 = .ok (.istore_n 1, 1) := by decide +kernel
theorem d_M_publish_5 : decode mi_M_publish.2.1 5 = .ok (.aload_n 0, 1) := by decide +kernel
theorem d_M_publish_6 : decode mi_M_publish.2.1 6 = .ok (.getfield 158, 3) := by decide +kernel
theorem d_M_publish_9 : decode mi_M_publish.2.1 9 = .ok (.istore_n 2, 1) := by decide +kernel
theorem d_M_publish_10 : decode mi_M_publish.2.1 10 = .ok (.iconst 0, 1) := by decide +kernel
theorem d_M_publish_11 : decode mi_M_publish.2.1 11 = .ok (.istore_n 3, 1) := by decide +kernel
theorem d_M_publish_12 : decode mi_M_publish.2.1 12 = .ok (.iload_n 3, 1) := by decide +kernel
theorem d_M_publish_13 : decode mi_M_publish.2.1 13 = .ok (.iload_n 1, 1) := by decide +kernel
theorem d_M_publish_14 : decode mi_M_publish.2.1 14 = .ok (.if_icmp .ge 20, 3) := by decide +kernel
theorem d_M_publish_17 : decode mi_M_publish.2.1 17 = .ok (.iload_n 1, 1) := by decide +kernel
theorem d_M_publish_18 : decode mi_M_publish.2.1 18 = .ok (.iconst 4, 1) := by decide +kernel
theorem d_M_publish_19 : decode mi_M_publish.2.1 19 = .ok (.if_icmp .gt 15, 3) := by decide +kernel
theorem d_M_publish_22 : decode mi_M_publish.2.1 22 = .ok (.aload_n 0, 1) := by decide +kernel
theorem d_M_publish_23 : decode mi_M_publish.2.1 23 = .ok (.iconst 4, 1) := by decide +kernel
theorem d_M_publish_24 : decode mi_M_publish.2.1 24 = .ok (.invokevirtual 171, 3) := by decide +kernel
theorem d_M_publish_27 : decode mi_M_publish.2.1 27 = .ok (.pop, 1) := by decide +kernel
theorem d_M_publish_28 : decode mi_M_publish.2.1 28 = .ok (.iinc 3 1, 3) := by decide +kernel
theorem d_M_publish_31 : decode mi_M_publish.2.1 31 = .ok (.goto (-19), 3) := by decide +kernel
theorem d_M_publish_34 : decode mi_M_publish.2.1 34 = .ok (.aload_n 0, 1) := by decide +kernel
theorem d_M_publish_35 : decode mi_M_publish.2.1 35 = .ok (.invokevirtual 211, 3) := by decide +kernel
theorem d_M_publish_38 : decode mi_M_publish.2.1 38 = .ok (.ifCond .eq 8, 3) := by decide +kernel
theorem d_M_publish_41 : decode mi_M_publish.2.1 41 = .ok (.iload_n 1, 1) := by decide +kernel
theorem d_M_publish_42 : decode mi_M_publish.2.1 42 = .ok (.iconst 4, 1) := by decide +kernel
theorem d_M_publish_43 : decode mi_M_publish.2.1 43 = .ok (.if_icmp .le 4, 3) := by decide +kernel
theorem d_M_publish_46 : decode mi_M_publish.2.1 46 = .ok (.return_, 1) := by decide +kernel
theorem d_M_publish_47 : decode mi_M_publish.2.1 47 = .ok (.aload_n 0, 1) := by decide +kernel
theorem d_M_publish_48 : decode mi_M_publish.2.1 48 = .ok (.iload_n 2, 1) := by decide +kernel
theorem d_M_publish_49 : decode mi_M_publish.2.1 49 = .ok (.putfield 158, 3) := by decide +kernel
theorem d_M_publish_52 : decode mi_M_publish.2.1 52 = .ok (.iconst 0, 1) := by decide +kernel
theorem d_M_publish_53 : decode mi_M_publish.2.1 53 = .ok (.istore_n 3, 1) := by decide +kernel
theorem d_M_publish_54 : decode mi_M_publish.2.1 54 = .ok (.iload_n 3, 1) := by decide +kernel
theorem d_M_publish_55 : decode mi_M_publish.2.1 55 = .ok (.iload_n 1, 1) := by decide +kernel
theorem d_M_publish_56 : decode mi_M_publish.2.1 56 = .ok (.if_icmp .ge 35, 3) := by decide +kernel
theorem d_M_publish_59 : decode mi_M_publish.2.1 59 = .ok (.aload_n 0, 1) := by decide +kernel
theorem d_M_publish_60 : decode mi_M_publish.2.1 60 = .ok (.iconst 4, 1) := by decide +kernel
theorem d_M_publish_61 : decode mi_M_publish.2.1 61 = .ok (.invokevirtual 171, 3) := by decide +kernel
theorem d_M_publish_64 : decode mi_M_publish.2.1 64 = .ok (.istore 4, 2) := by decide +kernel
theorem d_M_publish_66 : decode mi_M_publish.2.1 66 = .ok (.aload_n 0, 1) := by decide +kernel
theorem d_M_publish_67 : decode mi_M_publish.2.1 67 = .ok (.iload 4, 2) := by decide +kernel
theorem d_M_publish_69 : decode mi_M_publish.2.1 69 = .ok (.invokevirtual 218, 3) := by decide +kernel
theorem d_M_publish_72 : decode mi_M_publish.2.1 72 = .ok (.istore 5, 2) := by decide +kernel
theorem d_M_publish_74 : decode mi_M_publish.2.1 74 = .ok (.iload 5, 2) := by decide +kernel
theorem d_M_publish_76 : decode mi_M_publish.2.1 76 = .ok (.ifCond .lt 9, 3) := by decide +kernel
theorem d_M_publish_79 : decode mi_M_publish.2.1 79 = .ok (.aload_n 0, 1) := by decide +kernel
theorem d_M_publish_80 : decode mi_M_publish.2.1 80 = .ok (.iload 5, 2) := by decide +kernel
theorem d_M_publish_82 : decode mi_M_publish.2.1 82 = .ok (.invokevirtual 221, 3) := by decide +kernel
theorem d_M_publish_85 : decode mi_M_publish.2.1 85 = .ok (.iinc 3 1, 3) := by decide +kernel
theorem d_M_publish_88 : decode mi_M_publish.2.1 88 = .ok (.goto (-34), 3) := by decide +kernel
theorem d_M_publish_91 : decode mi_M_publish.2.1 91 = .ok (.aload_n 0, 1) := by decide +kernel
theorem d_M_publish_92 : decode mi_M_publish.2.1 92 = .ok (.invokevirtual 224, 3) := by decide +kernel
theorem d_M_publish_95 : decode mi_M_publish.2.1 95 = .ok (.ifCond .ge 10, 3) := by decide +kernel
theorem d_M_publish_98 : decode mi_M_publish.2.1 98 = .ok (.aload_n 0, 1) := by decide +kernel
theorem d_M_publish_99 : decode mi_M_publish.2.1 99 = .ok (.bipush 7, 2) := by decide +kernel
theorem d_M_publish_101 : decode mi_M_publish.2.1 101 = .ok (.invokevirtual 187, 3) := by decide +kernel
theorem d_M_publish_104 : decode mi_M_publish.2.1 104 = .ok (.return_, 1) := by decide +kernel
theorem d_M_publish_105 : decode mi_M_publish.2.1 105 = .ok (.aload_n 0, 1) := by decide +kernel
theorem d_M_publish_106 : decode mi_M_publish.2.1 106 = .ok (.dup, 1) := by decide +kernel
theorem d_M_publish_107 : decode mi_M_publish.2.1 107 = .ok (.getfield 88, 3) := by decide +kernel
theorem d_M_publish_110 : decode mi_M_publish.2.1 110 = .ok (.iconst 1, 1) := by decide +kernel
theorem d_M_publish_111 : decode mi_M_publish.2.1 111 = .ok (.iadd, 1) := by decide +kernel
theorem d_M_publish_112 : decode mi_M_publish.2.1 112 = .ok (.putfield 88, 3) := by decide +kernel
theorem d_M_publish_115 : decode mi_M_publish.2.1 115 = .ok (.aload_n 0, 1) := by decide +kernel
theorem d_M_publish_116 : decode mi_M_publish.2.1 116 = .ok (.iconst 0, 1) := by decide +kernel
theorem d_M_publish_117 : decode mi_M_publish.2.1 117 = .ok (.invokevirtual 187, 3) := by decide +kernel
theorem d_M_publish_120 : decode mi_M_publish.2.1 120 = .ok (.aload_n 0, 1) := by decide +kernel
theorem d_M_publish_121 : decode mi_M_publish.2.1 121 = .ok (.aload_n 0, 1) := by decide +kernel
theorem d_M_publish_122 : decode mi_M_publish.2.1 122 = .ok (.getfield 88, 3) := by decide +kernel
theorem d_M_publish_125 : decode mi_M_publish.2.1 125 = .ok (.invokevirtual 227, 3) := by decide +kernel
theorem d_M_publish_128 : decode mi_M_publish.2.1 128 = .ok (.aload_n 0, 1) := by decide +kernel
theorem d_M_publish_129 : decode mi_M_publish.2.1 129 = .ok (.iconst 0, 1) := by decide +kernel
theorem d_M_publish_130 : decode mi_M_publish.2.1 130 = .ok (.invokevirtual 184, 3) := by decide +kernel
theorem d_M_publish_133 : decode mi_M_publish.2.1 133 = .ok (.iconst 0, 1) := by decide +kernel
theorem d_M_publish_134 : decode mi_M_publish.2.1 134 = .ok (.istore_n 3, 1) := by decide +kernel
theorem d_M_publish_135 : decode mi_M_publish.2.1 135 = .ok (.iload_n 3, 1) := by decide +kernel
theorem d_M_publish_136 : decode mi_M_publish.2.1 136 = .ok (.iconst 3, 1) := by decide +kernel
theorem d_M_publish_137 : decode mi_M_publish.2.1 137 = .ok (.if_icmp .ge 44, 3) := by decide +kernel
theorem d_M_publish_140 : decode mi_M_publish.2.1 140 = .ok (.aload_n 0, 1) := by decide +kernel
theorem d_M_publish_141 : decode mi_M_publish.2.1 141 = .ok (.invokevirtual 224, 3) := by decide +kernel
theorem d_M_publish_144 : decode mi_M_publish.2.1 144 = .ok (.ifCond .lt 37, 3) := by decide +kernel
theorem d_M_publish_147 : decode mi_M_publish.2.1 147 = .ok (.aload_n 0, 1) := by decide +kernel
theorem d_M_publish_148 : decode mi_M_publish.2.1 148 = .ok (.invokevirtual 224, 3) := by decide +kernel
theorem d_M_publish_151 : decode mi_M_publish.2.1 151 = .ok (.istore 4, 2) := by decide +kernel
theorem d_M_publish_153 : decode mi_M_publish.2.1 153 = .ok (.aload_n 0, 1) := by decide +kernel
theorem d_M_publish_154 : decode mi_M_publish.2.1 154 = .ok (.getfield 69, 3) := by decide +kernel
theorem d_M_publish_157 : decode mi_M_publish.2.1 157 = .ok (.iconst 5, 1) := by decide +kernel
theorem d_M_publish_158 : decode mi_M_publish.2.1 158 = .ok (.dup2, 1) := by decide +kernel
theorem d_M_publish_159 : decode mi_M_publish.2.1 159 = .ok (.iaload, 1) := by decide +kernel
theorem d_M_publish_160 : decode mi_M_publish.2.1 160 = .ok (.iconst 1, 1) := by decide +kernel
theorem d_M_publish_161 : decode mi_M_publish.2.1 161 = .ok (.iadd, 1) := by decide +kernel
theorem d_M_publish_162 : decode mi_M_publish.2.1 162 = .ok (.iastore, 1) := by decide +kernel
theorem d_M_publish_163 : decode mi_M_publish.2.1 163 = .ok (.aload_n 0, 1) := by decide +kernel
theorem d_M_publish_164 : decode mi_M_publish.2.1 164 = .ok (.iload 4, 2) := by decide +kernel
theorem d_M_publish_166 : decode mi_M_publish.2.1 166 = .ok (.invokevirtual 230, 3) := by decide +kernel
theorem d_M_publish_169 : decode mi_M_publish.2.1 169 = .ok (.aload_n 0, 1) := by decide +kernel
theorem d_M_publish_170 : decode mi_M_publish.2.1 170 = .ok (.iload 4, 2) := by decide +kernel
theorem d_M_publish_172 : decode mi_M_publish.2.1 172 = .ok (.invokevirtual 117, 3) := by decide +kernel
theorem d_M_publish_175 : decode mi_M_publish.2.1 175 = .ok (.iinc 3 1, 3) := by decide +kernel
theorem d_M_publish_178 : decode mi_M_publish.2.1 178 = .ok (.goto (-43), 3) := by decide +kernel
theorem d_M_publish_181 : decode mi_M_publish.2.1 181 = .ok (.aload_n 0, 1) := by decide +kernel
theorem d_M_publish_182 : decode mi_M_publish.2.1 182 = .ok (.invokevirtual 233, 3) := by decide +kernel
theorem d_M_publish_185 : decode mi_M_publish.2.1 185 = .ok (.return_, 1) := by decide +kernel
theorem d_M_find_0 : decode mi_M_find.2.1 0 = .ok (.iconst (-1), 1) := by decide +kernel
theorem d_M_find_1 : decode mi_M_find.2.1 1 = .ok (.istore_n 2, 1) := by decide +kernel
theorem d_M_find_2 : decode mi_M_find.2.1 2 = .ok (.iconst 0, 1) := by decide +kernel
theorem d_M_find_3 : decode mi_M_find.2.1 3 = .ok (.istore_n 3, 1) := by decide +kernel
theorem d_M_find_4 : decode mi_M_find.2.1 4 = .ok (.iload_n 3, 1) := by decide +kernel
theorem d_M_find_5 : decode mi_M_find.2.1 5 = .ok (.aload_n 0, 1) := by decide +kernel
theorem d_M_find_6 : decode mi_M_find.2.1 6 = .ok (.getfield 85, 3) := by decide +kernel
theorem d_M_find_9 : decode mi_M_find.2.1 9 = .ok (.if_icmp .ge 25, 3) := by decide +kernel
theorem d_M_find_12 : decode mi_M_find.2.1 12 = .ok (.aload_n 0, 1) := by decide +kernel
theorem d_M_find_13 : decode mi_M_find.2.1 13 = .ok (.getfield 51, 3) := by decide +kernel
theorem d_M_find_16 : decode mi_M_find.2.1 16 = .ok (.iload_n 3, 1) := by decide +kernel
theorem d_M_find_17 : decode mi_M_find.2.1 17 = .ok (.iaload, 1) := by decide +kernel
theorem d_M_find_18 : decode mi_M_find.2.1 18 = .ok (.iload_n 1, 1) := by decide +kernel
theorem d_M_find_19 : decode mi_M_find.2.1 19 = .ok (.if_icmp .ne 7, 3) := by decide +kernel
theorem d_M_find_22 : decode mi_M_find.2.1 22 = .ok (.iload_n 3, 1) := by decide +kernel
theorem d_M_find_23 : decode mi_M_find.2.1 23 = .ok (.goto 4, 3) := by decide +kernel
theorem d_M_find_26 : decode mi_M_find.2.1 26 = .ok (.iload_n 2, 1) := by decide +kernel
theorem d_M_find_27 : decode mi_M_find.2.1 27 = .ok (.istore_n 2, 1) := by decide +kernel
theorem d_M_find_28 : decode mi_M_find.2.1 28 = .ok (.iinc 3 1, 3) := by decide +kernel
theorem d_M_find_31 : decode mi_M_find.2.1 31 = .ok (.goto (-27), 3) := by decide +kernel
theorem d_M_find_34 : decode mi_M_find.2.1 34 = .ok (.iload_n 2, 1) := by decide +kernel
theorem d_M_find_35 : decode mi_M_find.2.1 35 = .ok (.ireturn, 1) := by decide +kernel
theorem d_M_dropParcel_0 : decode mi_M_dropParcel.2.1 0 = .ok (.aload_n 0, 1) := by decide +kernel
theorem d_M_dropParcel_1 : decode mi_M_dropParcel.2.1 1 = .ok (.dup, 1) := by decide +kernel
theorem d_M_dropParcel_2 : decode mi_M_dropParcel.2.1 2 = .ok (.getfield 85, 3) := by decide +kernel
theorem d_M_dropParcel_5 : decode mi_M_dropParcel.2.1 5 = .ok (.iconst 1, 1) := by decide +kernel
theorem d_M_dropParcel_6 : decode mi_M_dropParcel.2.1 6 = .ok (.isub, 1) := by decide +kernel
theorem d_M_dropParcel_7 : decode mi_M_dropParcel.2.1 7 = .ok (.putfield 85, 3) := by decide +kernel
theorem d_M_dropParcel_10 : decode mi_M_dropParcel.2.1 10 = .ok (.iload_n 1, 1) := by decide +kernel
theorem d_M_dropParcel_11 : decode mi_M_dropParcel.2.1 11 = .ok (.istore_n 2, 1) := by decide +kernel
theorem d_M_dropParcel_12 : decode mi_M_dropParcel.2.1 12 = .ok (.iload_n 2, 1) := by decide +kernel
theorem d_M_dropParcel_13 : decode mi_M_dropParcel.2.1 13 = .ok (.aload_n 0, 1) := by decide +kernel
theorem d_M_dropParcel_14 : decode mi_M_dropParcel.2.1 14 = .ok (.getfield 85, 3) := by decide +kernel
theorem d_M_dropParcel_17 : decode mi_M_dropParcel.2.1 17 = .ok (.if_icmp .ge 80, 3) := by decide +kernel
theorem d_M_dropParcel_20 : decode mi_M_dropParcel.2.1 20 = .ok (.aload_n 0, 1) := by decide +kernel
theorem d_M_dropParcel_21 : decode mi_M_dropParcel.2.1 21 = .ok (.getfield 51, 3) := by decide +kernel
theorem d_M_dropParcel_24 : decode mi_M_dropParcel.2.1 24 = .ok (.iload_n 2, 1) := by decide +kernel
theorem d_M_dropParcel_25 : decode mi_M_dropParcel.2.1 25 = .ok (.aload_n 0, 1) := by decide +kernel
theorem d_M_dropParcel_26 : decode mi_M_dropParcel.2.1 26 = .ok (.getfield 51, 3) := by decide +kernel
theorem d_M_dropParcel_29 : decode mi_M_dropParcel.2.1 29 = .ok (.iload_n 2, 1) := by decide +kernel
theorem d_M_dropParcel_30 : decode mi_M_dropParcel.2.1 30 = .ok (.iconst 1, 1) := by decide +kernel
theorem d_M_dropParcel_31 : decode mi_M_dropParcel.2.1 31 = .ok (.iadd, 1) := by decide +kernel
theorem d_M_dropParcel_32 : decode mi_M_dropParcel.2.1 32 = .ok (.iaload, 1) := by decide +kernel
theorem d_M_dropParcel_33 : decode mi_M_dropParcel.2.1 33 = .ok (.iastore, 1) := by decide +kernel
theorem d_M_dropParcel_34 : decode mi_M_dropParcel.2.1 34 = .ok (.aload_n 0, 1) := by decide +kernel
theorem d_M_dropParcel_35 : decode mi_M_dropParcel.2.1 35 = .ok (.getfield 54, 3) := by decide +kernel
theorem d_M_dropParcel_38 : decode mi_M_dropParcel.2.1 38 = .ok (.iload_n 2, 1) := by decide +kernel
theorem d_M_dropParcel_39 : decode mi_M_dropParcel.2.1 39 = .ok (.aload_n 0, 1) := by decide +kernel
theorem d_M_dropParcel_40 : decode mi_M_dropParcel.2.1 40 = .ok (.getfield 54, 3) := by decide +kernel
theorem d_M_dropParcel_43 : decode mi_M_dropParcel.2.1 43 = .ok (.iload_n 2, 1) := by decide +kernel
theorem d_M_dropParcel_44 : decode mi_M_dropParcel.2.1 44 = .ok (.iconst 1, 1) := by decide +kernel
theorem d_M_dropParcel_45 : decode mi_M_dropParcel.2.1 45 = .ok (.iadd, 1) := by decide +kernel
theorem d_M_dropParcel_46 : decode mi_M_dropParcel.2.1 46 = .ok (.iaload, 1) := by decide +kernel
theorem d_M_dropParcel_47 : decode mi_M_dropParcel.2.1 47 = .ok (.iastore, 1) := by decide +kernel
theorem d_M_dropParcel_48 : decode mi_M_dropParcel.2.1 48 = .ok (.iconst 0, 1) := by decide +kernel
theorem d_M_dropParcel_49 : decode mi_M_dropParcel.2.1 49 = .ok (.istore_n 3, 1) := by decide +kernel
theorem d_M_dropParcel_50 : decode mi_M_dropParcel.2.1 50 = .ok (.iload_n 3, 1) := by decide +kernel
theorem d_M_dropParcel_51 : decode mi_M_dropParcel.2.1 51 = .ok (.sipush 200, 3) := by decide +kernel
theorem d_M_dropParcel_54 : decode mi_M_dropParcel.2.1 54 = .ok (.if_icmp .ge 37, 3) := by decide +kernel
theorem d_M_dropParcel_57 : decode mi_M_dropParcel.2.1 57 = .ok (.aload_n 0, 1) := by decide +kernel
theorem d_M_dropParcel_58 : decode mi_M_dropParcel.2.1 58 = .ok (.getfield 57, 3) := by decide +kernel
theorem d_M_dropParcel_61 : decode mi_M_dropParcel.2.1 61 = .ok (.sipush 200, 3) := by decide +kernel
theorem d_M_dropParcel_64 : decode mi_M_dropParcel.2.1 64 = .ok (.iload_n 2, 1) := by decide +kernel
theorem d_M_dropParcel_65 : decode mi_M_dropParcel.2.1 65 = .ok (.imul, 1) := by decide +kernel
theorem d_M_dropParcel_66 : decode mi_M_dropParcel.2.1 66 = .ok (.iload_n 3, 1) := by decide +kernel
theorem d_M_dropParcel_67 : decode mi_M_dropParcel.2.1 67 = .ok (.iadd, 1) := by decide +kernel
theorem d_M_dropParcel_68 : decode mi_M_dropParcel.2.1 68 = .ok (.aload_n 0, 1) := by decide +kernel
theorem d_M_dropParcel_69 : decode mi_M_dropParcel.2.1 69 = .ok (.getfield 57, 3) := by decide +kernel
theorem d_M_dropParcel_72 : decode mi_M_dropParcel.2.1 72 = .ok (.sipush 200, 3) := by decide +kernel
theorem d_M_dropParcel_75 : decode mi_M_dropParcel.2.1 75 = .ok (.iload_n 2, 1) := by decide +kernel
theorem d_M_dropParcel_76 : decode mi_M_dropParcel.2.1 76 = .ok (.imul, 1) := by decide +kernel
theorem d_M_dropParcel_77 : decode mi_M_dropParcel.2.1 77 = .ok (.sipush 200, 3) := by decide +kernel
theorem d_M_dropParcel_80 : decode mi_M_dropParcel.2.1 80 = .ok (.iadd, 1) := by decide +kernel
theorem d_M_dropParcel_81 : decode mi_M_dropParcel.2.1 81 = .ok (.iload_n 3, 1) := by decide +kernel
theorem d_M_dropParcel_82 : decode mi_M_dropParcel.2.1 82 = .ok (.iadd, 1) := by decide +kernel
theorem d_M_dropParcel_83 : decode mi_M_dropParcel.2.1 83 = .ok (.iaload, 1) := by decide +kernel
theorem d_M_dropParcel_84 : decode mi_M_dropParcel.2.1 84 = .ok (.iastore, 1) := by decide +kernel
theorem d_M_dropParcel_85 : decode mi_M_dropParcel.2.1 85 = .ok (.iinc 3 1, 3) := by decide +kernel
theorem d_M_dropParcel_88 : decode mi_M_dropParcel.2.1 88 = .ok (.goto (-38), 3) := by decide +kernel
theorem d_M_dropParcel_91 : decode mi_M_dropParcel.2.1 91 = .ok (.iinc 2 1, 3) := by decide +kernel
theorem d_M_dropParcel_94 : decode mi_M_dropParcel.2.1 94 = .ok (.goto (-82), 3) := by decide +kernel
theorem d_M_dropParcel_97 : decode mi_M_dropParcel.2.1 97 = .ok (.return_, 1) := by decide +kernel
theorem d_M_busy_0 : decode mi_M_busy.2.1 0 = .ok (.iconst (-1), 1) := by decide +kernel
theorem d_M_busy_1 : decode mi_M_busy.2.1 1 = .ok (.istore_n 1, 1) := by decide +kernel
theorem d_M_busy_2 : decode mi_M_busy.2.1 2 = .ok (.aload_n 0, 1) := by decide +kernel
theorem d_M_busy_3 : decode mi_M_busy.2.1 3 = .ok (.getfield 82, 3) := by decide +kernel
theorem d_M_busy_6 : decode mi_M_busy.2.1 6 = .ok (.iconst 1, 1) := by decide +kernel
theorem d_M_busy_7 : decode mi_M_busy.2.1 7 = .ok (.isub, 1) := by decide +kernel
theorem d_M_busy_8 : decode mi_M_busy.2.1 8 = .ok (.istore_n 2, 1) := by decide +kernel
theorem d_M_busy_9 : decode mi_M_busy.2.1 9 = .ok (.iload_n 2, 1) := by decide +kernel
theorem d_M_busy_10 : decode mi_M_busy.2.1 10 = .ok (.ifCond .lt 24, 3) := by decide +kernel
theorem d_M_busy_13 : decode mi_M_busy.2.1 13 = .ok (.aload_n 0, 1) := by decide +kernel
theorem d_M_busy_14 : decode mi_M_busy.2.1 14 = .ok (.getfield 39, 3) := by decide +kernel
theorem d_M_busy_17 : decode mi_M_busy.2.1 17 = .ok (.iload_n 2, 1) := by decide +kernel
theorem d_M_busy_18 : decode mi_M_busy.2.1 18 = .ok (.iaload, 1) := by decide +kernel
theorem d_M_busy_19 : decode mi_M_busy.2.1 19 = .ok (.ifCond .le 7, 3) := by decide +kernel
theorem d_M_busy_22 : decode mi_M_busy.2.1 22 = .ok (.iload_n 2, 1) := by decide +kernel
theorem d_M_busy_23 : decode mi_M_busy.2.1 23 = .ok (.goto 4, 3) := by decide +kernel
theorem d_M_busy_26 : decode mi_M_busy.2.1 26 = .ok (.iload_n 1, 1) := by decide +kernel
theorem d_M_busy_27 : decode mi_M_busy.2.1 27 = .ok (.istore_n 1, 1) := by decide +kernel
theorem d_M_busy_28 : decode mi_M_busy.2.1 28 = .ok (.iinc 2 (-1), 3) := by decide +kernel
theorem d_M_busy_31 : decode mi_M_busy.2.1 31 = .ok (.goto (-22), 3) := by decide +kernel
theorem d_M_busy_34 : decode mi_M_busy.2.1 34 = .ok (.iload_n 1, 1) := by decide +kernel
theorem d_M_busy_35 : decode mi_M_busy.2.1 35 = .ok (.ireturn, 1) := by decide +kernel
theorem d_M_sayNumber_0 : decode mi_M_sayNumber.2.1 0 = .ok (.iconst 0, 1) := by decide +kernel
theorem d_M_sayNumber_1 : decode mi_M_sayNumber.2.1 1 = .ok (.istore_n 2, 1) := by decide +kernel
theorem d_M_sayNumber_2 : decode mi_M_sayNumber.2.1 2 = .ok (.iload_n 2, 1) := by decide +kernel
theorem d_M_sayNumber_3 : decode mi_M_sayNumber.2.1 3 = .ok (.iconst 4, 1) := by decide +kernel
theorem d_M_sayNumber_4 : decode mi_M_sayNumber.2.1 4 = .ok (.if_icmp .ge 23, 3) := by decide +kernel
theorem d_M_sayNumber_7 : decode mi_M_sayNumber.2.1 7 = .ok (.aload_n 0, 1) := by decide +kernel
theorem d_M_sayNumber_8 : decode mi_M_sayNumber.2.1 8 = .ok (.iload_n 1, 1) := by decide +kernel
theorem d_M_sayNumber_9 : decode mi_M_sayNumber.2.1 9 = .ok (.bipush 8, 2) := by decide +kernel
theorem d_M_sayNumber_11 : decode mi_M_sayNumber.2.1 11 = .ok (.iload_n 2, 1) := by decide +kernel
theorem d_M_sayNumber_12 : decode mi_M_sayNumber.2.1 12 = .ok (.imul, 1) := by decide +kernel
theorem d_M_sayNumber_13 : decode mi_M_sayNumber.2.1 13 = .ok (.ishr, 1) := by decide +kernel
theorem d_M_sayNumber_14 : decode mi_M_sayNumber.2.1 14 = .ok (.sipush 255, 3) := by decide +kernel
theorem d_M_sayNumber_17 : decode mi_M_sayNumber.2.1 17 = .ok (.iand, 1) := by decide +kernel
theorem d_M_sayNumber_18 : decode mi_M_sayNumber.2.1 18 = .ok (.invokevirtual 184, 3) := by decide +kernel
theorem d_M_sayNumber_21 : decode mi_M_sayNumber.2.1 21 = .ok (.iinc 2 1, 3) := by decide +kernel
theorem d_M_sayNumber_24 : decode mi_M_sayNumber.2.1 24 = .ok (.goto (-22), 3) := by decide +kernel
theorem d_M_sayNumber_27 : decode mi_M_sayNumber.2.1 27 = .ok (.return_, 1) := by decide +kernel
theorem d_M_sayNotice_0 : decode mi_M_sayNotice.2.1 0 = .ok (.aload_n 0, 1) := by decide +kernel
theorem d_M_sayNotice_1 : decode mi_M_sayNotice.2.1 1 = .ok (.iload_n 1, 1) := by decide +kernel
theorem d_M_sayNotice_2 : decode mi_M_sayNotice.2.1 2 = .ok (.invokevirtual 184, 3) := by decide +kernel
theorem d_M_sayNotice_5 : decode mi_M_sayNotice.2.1 5 = .ok (.iconst 0, 1) := by decide +kernel
theorem d_M_sayNotice_6 : decode mi_M_sayNotice.2.1 6 = .ok (.istore_n 2, 1) := by decide +kernel
theorem d_M_sayNotice_7 : decode mi_M_sayNotice.2.1 7 = .ok (.iload_n 2, 1) := by decide +kernel
theorem d_M_sayNotice_8 : decode mi_M_sayNotice.2.1 8 = .ok (.aload_n 0, 1) := by decide +kernel
theorem d_M_sayNotice_9 : decode mi_M_sayNotice.2.1 9 = .ok (.getfield 42, 3) := by decide +kernel
theorem d_M_sayNotice_12 : decode mi_M_sayNotice.2.1 12 = .ok (.iconst 4, 1) := by decide +kernel
theorem d_M_sayNotice_13 : decode mi_M_sayNotice.2.1 13 = .ok (.iload_n 1, 1) := by decide +kernel
theorem d_M_sayNotice_14 : decode mi_M_sayNotice.2.1 14 = .ok (.imul, 1) := by decide +kernel
theorem d_M_sayNotice_15 : decode mi_M_sayNotice.2.1 15 = .ok (.iaload, 1) := by decide +kernel
theorem d_M_sayNotice_16 : decode mi_M_sayNotice.2.1 16 = .ok (.if_icmp .ge 25, 3) := by decide +kernel
theorem d_M_sayNotice_19 : decode mi_M_sayNotice.2.1 19 = .ok (.aload_n 0, 1) := by decide +kernel
theorem d_M_sayNotice_20 : decode mi_M_sayNotice.2.1 20 = .ok (.aload_n 0, 1) := by decide +kernel
theorem d_M_sayNotice_21 : decode mi_M_sayNotice.2.1 21 = .ok (.getfield 48, 3) := by decide +kernel
theorem d_M_sayNotice_24 : decode mi_M_sayNotice.2.1 24 = .ok (.sipush 256, 3) := by decide +kernel
theorem d_M_sayNotice_27 : decode mi_M_sayNotice.2.1 27 = .ok (.iload_n 1, 1) := by decide +kernel
theorem d_M_sayNotice_28 : decode mi_M_sayNotice.2.1 28 = .ok (.imul, 1) := by decide +kernel
theorem d_M_sayNotice_29 : decode mi_M_sayNotice.2.1 29 = .ok (.iload_n 2, 1) := by decide +kernel
theorem d_M_sayNotice_30 : decode mi_M_sayNotice.2.1 30 = .ok (.iadd, 1) := by decide +kernel
theorem d_M_sayNotice_31 : decode mi_M_sayNotice.2.1 31 = .ok (.iaload, 1) := by decide +kernel
theorem d_M_sayNotice_32 : decode mi_M_sayNotice.2.1 32 = .ok (.invokevirtual 184, 3) := by decide +kernel
theorem d_M_sayNotice_35 : decode mi_M_sayNotice.2.1 35 = .ok (.iinc 2 1, 3) := by decide +kernel
theorem d_M_sayNotice_38 : decode mi_M_sayNotice.2.1 38 = .ok (.goto (-31), 3) := by decide +kernel
theorem d_M_sayNotice_41 : decode mi_M_sayNotice.2.1 41 = .ok (.aload_n 0, 1) := by decide +kernel
theorem d_M_sayNotice_42 : decode mi_M_sayNotice.2.1 42 = .ok (.aload_n 0, 1) := by decide +kernel
theorem d_M_sayNotice_43 : decode mi_M_sayNotice.2.1 43 = .ok (.getfield 45, 3) := by decide +kernel
theorem d_M_sayNotice_46 : decode mi_M_sayNotice.2.1 46 = .ok (.iconst 4, 1) := by decide +kernel
theorem d_M_sayNotice_47 : decode mi_M_sayNotice.2.1 47 = .ok (.iload_n 1, 1) := by decide +kernel
theorem d_M_sayNotice_48 : decode mi_M_sayNotice.2.1 48 = .ok (.imul, 1) := by decide +kernel
theorem d_M_sayNotice_49 : decode mi_M_sayNotice.2.1 49 = .ok (.iaload, 1) := by decide +kernel
theorem d_M_sayNotice_50 : decode mi_M_sayNotice.2.1 50 = .ok (.invokevirtual 184, 3) := by decide +kernel
theorem d_M_sayNotice_53 : decode mi_M_sayNotice.2.1 53 = .ok (.return_, 1) := by decide +kernel
theorem d_M_keep_0 : decode mi_M_keep.2.1 0 = .ok (.aload_n 0, 1) := by decide +kernel
theorem d_M_keep_1 : decode mi_M_keep.2.1 1 = .ok (.getfield 85, 3) := by decide +kernel
theorem d_M_keep_4 : decode mi_M_keep.2.1 4 = .ok (.iconst 3, 1) := by decide +kernel
theorem d_M_keep_5 : decode mi_M_keep.2.1 5 = .ok (.if_icmp .ne 8, 3) := by decide +kernel
theorem d_M_keep_8 : decode mi_M_keep.2.1 8 = .ok (.aload_n 0, 1) := by decide +kernel
theorem d_M_keep_9 : decode mi_M_keep.2.1 9 = .ok (.iconst 0, 1) := by decide +kernel
theorem d_M_keep_10 : decode mi_M_keep.2.1 10 = .ok (.invokevirtual 221, 3) := by decide +kernel
theorem d_M_keep_13 : decode mi_M_keep.2.1 13 = .ok (.aload_n 0, 1) := by decide +kernel
theorem d_M_keep_14 : decode mi_M_keep.2.1 14 = .ok (.getfield 51, 3) := by decide +kernel
theorem d_M_keep_17 : decode mi_M_keep.2.1 17 = .ok (.aload_n 0, 1) := by decide +kernel
theorem d_M_keep_18 : decode mi_M_keep.2.1 18 = .ok (.getfield 85, 3) := by decide +kernel
theorem d_M_keep_21 : decode mi_M_keep.2.1 21 = .ok (.aload_n 0, 1) := by decide +kernel
theorem d_M_keep_22 : decode mi_M_keep.2.1 22 = .ok (.getfield 88, 3) := by decide +kernel
theorem d_M_keep_25 : decode mi_M_keep.2.1 25 = .ok (.iastore, 1) := by decide +kernel
theorem d_M_keep_26 : decode mi_M_keep.2.1 26 = .ok (.aload_n 0, 1) := by decide +kernel
theorem d_M_keep_27 : decode mi_M_keep.2.1 27 = .ok (.getfield 54, 3) := by decide +kernel
theorem d_M_keep_30 : decode mi_M_keep.2.1 30 = .ok (.aload_n 0, 1) := by decide +kernel
theorem d_M_keep_31 : decode mi_M_keep.2.1 31 = .ok (.getfield 85, 3) := by decide +kernel
theorem d_M_keep_34 : decode mi_M_keep.2.1 34 = .ok (.aload_n 0, 1) := by decide +kernel
theorem d_M_keep_35 : decode mi_M_keep.2.1 35 = .ok (.getfield 94, 3) := by decide +kernel
theorem d_M_keep_38 : decode mi_M_keep.2.1 38 = .ok (.iconst 1, 1) := by decide +kernel
theorem d_M_keep_39 : decode mi_M_keep.2.1 39 = .ok (.isub, 1) := by decide +kernel
theorem d_M_keep_40 : decode mi_M_keep.2.1 40 = .ok (.iastore, 1) := by decide +kernel
theorem d_M_keep_41 : decode mi_M_keep.2.1 41 = .ok (.iconst 1, 1) := by decide +kernel
theorem d_M_keep_42 : decode mi_M_keep.2.1 42 = .ok (.istore_n 1, 1) := by decide +kernel
theorem d_M_keep_43 : decode mi_M_keep.2.1 43 = .ok (.iload_n 1, 1) := by decide +kernel
theorem d_M_keep_44 : decode mi_M_keep.2.1 44 = .ok (.aload_n 0, 1) := by decide +kernel
theorem d_M_keep_45 : decode mi_M_keep.2.1 45 = .ok (.getfield 94, 3) := by decide +kernel
theorem d_M_keep_48 : decode mi_M_keep.2.1 48 = .ok (.if_icmp .ge 32, 3) := by decide +kernel
theorem d_M_keep_51 : decode mi_M_keep.2.1 51 = .ok (.aload_n 0, 1) := by decide +kernel
theorem d_M_keep_52 : decode mi_M_keep.2.1 52 = .ok (.getfield 57, 3) := by decide +kernel
theorem d_M_keep_55 : decode mi_M_keep.2.1 55 = .ok (.sipush 200, 3) := by decide +kernel
theorem d_M_keep_58 : decode mi_M_keep.2.1 58 = .ok (.aload_n 0, 1) := by decide +kernel
theorem d_M_keep_59 : decode mi_M_keep.2.1 59 = .ok (.getfield 85, 3) := by decide +kernel
theorem d_M_keep_62 : decode mi_M_keep.2.1 62 = .ok (.imul, 1) := by decide +kernel
theorem d_M_keep_63 : decode mi_M_keep.2.1 63 = .ok (.iload_n 1, 1) := by decide +kernel
theorem d_M_keep_64 : decode mi_M_keep.2.1 64 = .ok (.iadd, 1) := by decide +kernel
theorem d_M_keep_65 : decode mi_M_keep.2.1 65 = .ok (.iconst 1, 1) := by decide +kernel
theorem d_M_keep_66 : decode mi_M_keep.2.1 66 = .ok (.isub, 1) := by decide +kernel
theorem d_M_keep_67 : decode mi_M_keep.2.1 67 = .ok (.aload_n 0, 1) := by decide +kernel
theorem d_M_keep_68 : decode mi_M_keep.2.1 68 = .ok (.getfield 69, 3) := by decide +kernel
theorem d_M_keep_71 : decode mi_M_keep.2.1 71 = .ok (.iload_n 1, 1) := by decide +kernel
theorem d_M_keep_72 : decode mi_M_keep.2.1 72 = .ok (.iaload, 1) := by decide +kernel
theorem d_M_keep_73 : decode mi_M_keep.2.1 73 = .ok (.iastore, 1) := by decide +kernel
theorem d_M_keep_74 : decode mi_M_keep.2.1 74 = .ok (.iinc 1 1, 3) := by decide +kernel
theorem d_M_keep_77 : decode mi_M_keep.2.1 77 = .ok (.goto (-34), 3) := by decide +kernel
theorem d_M_keep_80 : decode mi_M_keep.2.1 80 = .ok (.aload_n 0, 1) := by decide +kernel
theorem d_M_keep_81 : decode mi_M_keep.2.1 81 = .ok (.dup, 1) := by decide +kernel
theorem d_M_keep_82 : decode mi_M_keep.2.1 82 = .ok (.getfield 85, 3) := by decide +kernel
theorem d_M_keep_85 : decode mi_M_keep.2.1 85 = .ok (.iconst 1, 1) := by decide +kernel
theorem d_M_keep_86 : decode mi_M_keep.2.1 86 = .ok (.iadd, 1) := by decide +kernel
theorem d_M_keep_87 : decode mi_M_keep.2.1 87 = .ok (.putfield 85, 3) := by decide +kernel
theorem d_M_keep_90 : decode mi_M_keep.2.1 90 = .ok (.return_, 1) := by decide +kernel
theorem d_M_again_0 : decode mi_M_again.2.1 0 = .ok (.aload_n 0, 1) := by decide +kernel
theorem d_M_again_1 : decode mi_M_again.2.1 1 = .ok (.iconst 4, 1) := by decide +kernel
theorem d_M_again_2 : decode mi_M_again.2.1 2 = .ok (.invokevirtual 171, 3) := by decide +kernel
theorem d_M_again_5 : decode mi_M_again.2.1 5 = .ok (.istore_n 1, 1) := by decide +kernel
theorem d_M_again_6 : decode mi_M_again.2.1 6 = .ok (.aload_n 0, 1) := by decide +kernel
theorem d_M_again_7 : decode mi_M_again.2.1 7 = .ok (.invokevirtual 211, 3) := by decide +kernel
theorem d_M_again_10 : decode mi_M_again.2.1 10 = .ok (.ifCond .ne 4, 3) := by decide +kernel
theorem d_M_again_13 : decode mi_M_again.2.1 13 = .ok (.return_, 1) := by decide +kernel
theorem d_M_again_14 : decode mi_M_again.2.1 14 = .ok (.aload_n 0, 1) := by decide +kernel
theorem d_M_again_15 : decode mi_M_again.2.1 15 = .ok (.iload_n 1, 1) := by decide +kernel
theorem d_M_again_16 : decode mi_M_again.2.1 16 = .ok (.invokevirtual 218, 3) := by decide +kernel
theorem d_M_again_19 : decode mi_M_again.2.1 19 = .ok (.istore_n 2, 1) := by decide +kernel
theorem d_M_again_20 : decode mi_M_again.2.1 20 = .ok (.iload_n 2, 1) := by decide +kernel
theorem d_M_again_21 : decode mi_M_again.2.1 21 = .ok (.ifCond .ge 10, 3) := by decide +kernel
theorem d_M_again_24 : decode mi_M_again.2.1 24 = .ok (.aload_n 0, 1) := by decide +kernel
theorem d_M_again_25 : decode mi_M_again.2.1 25 = .ok (.bipush 8, 2) := by decide +kernel
theorem d_M_again_27 : decode mi_M_again.2.1 27 = .ok (.invokevirtual 187, 3) := by decide +kernel
theorem d_M_again_30 : decode mi_M_again.2.1 30 = .ok (.return_, 1) := by decide +kernel
theorem d_M_again_31 : decode mi_M_again.2.1 31 = .ok (.aload_n 0, 1) := by decide +kernel
theorem d_M_again_32 : decode mi_M_again.2.1 32 = .ok (.iconst 0, 1) := by decide +kernel
theorem d_M_again_33 : decode mi_M_again.2.1 33 = .ok (.invokevirtual 187, 3) := by decide +kernel
theorem d_M_again_36 : decode mi_M_again.2.1 36 = .ok (.iconst 0, 1) := by decide +kernel
theorem d_M_again_37 : decode mi_M_again.2.1 37 = .ok (.istore_n 3, 1) := by decide +kernel
theorem d_M_again_38 : decode mi_M_again.2.1 38 = .ok (.iload_n 3, 1) := by decide +kernel
theorem d_M_again_39 : decode mi_M_again.2.1 39 = .ok (.aload_n 0, 1) := by decide +kernel
theorem d_M_again_40 : decode mi_M_again.2.1 40 = .ok (.getfield 54, 3) := by decide +kernel
theorem d_M_again_43 : decode mi_M_again.2.1 43 = .ok (.iload_n 2, 1) := by decide +kernel
theorem d_M_again_44 : decode mi_M_again.2.1 44 = .ok (.iaload, 1) := by decide +kernel
theorem d_M_again_45 : decode mi_M_again.2.1 45 = .ok (.if_icmp .ge 25, 3) := by decide +kernel
theorem d_M_again_48 : decode mi_M_again.2.1 48 = .ok (.aload_n 0, 1) := by decide +kernel
theorem d_M_again_49 : decode mi_M_again.2.1 49 = .ok (.aload_n 0, 1) := by decide +kernel
theorem d_M_again_50 : decode mi_M_again.2.1 50 = .ok (.getfield 57, 3) := by decide +kernel
theorem d_M_again_53 : decode mi_M_again.2.1 53 = .ok (.sipush 200, 3) := by decide +kernel
theorem d_M_again_56 : decode mi_M_again.2.1 56 = .ok (.iload_n 2, 1) := by decide +kernel
theorem d_M_again_57 : decode mi_M_again.2.1 57 = .ok (.imul, 1) := by decide +kernel
theorem d_M_again_58 : decode mi_M_again.2.1 58 = .ok (.iload_n 3, 1) := by decide +kernel
theorem d_M_again_59 : decode mi_M_again.2.1 59 = .ok (.iadd, 1) := by decide +kernel
theorem d_M_again_60 : decode mi_M_again.2.1 60 = .ok (.iaload, 1) := by decide +kernel
theorem d_M_again_61 : decode mi_M_again.2.1 61 = .ok (.invokevirtual 184, 3) := by decide +kernel
theorem d_M_again_64 : decode mi_M_again.2.1 64 = .ok (.iinc 3 1, 3) := by decide +kernel
theorem d_M_again_67 : decode mi_M_again.2.1 67 = .ok (.goto (-29), 3) := by decide +kernel
theorem d_M_again_70 : decode mi_M_again.2.1 70 = .ok (.return_, 1) := by decide +kernel
theorem d_M_part_0 : decode mi_M_part.2.1 0 = .ok (.aload_n 0, 1) := by decide +kernel
theorem d_M_part_1 : decode mi_M_part.2.1 1 = .ok (.getfield 79, 3) := by decide +kernel
theorem d_M_part_4 : decode mi_M_part.2.1 4 = .ok (.ifCond .eq 10, 3) := by decide +kernel
theorem d_M_part_7 : decode mi_M_part.2.1 7 = .ok (.aload_n 0, 1) := by decide +kernel
theorem d_M_part_8 : decode mi_M_part.2.1 8 = .ok (.getfield 140, 3) := by decide +kernel
theorem d_M_part_11 : decode mi_M_part.2.1 11 = .ok (.goto 4, 3) := by decide +kernel
theorem d_M_part_14 : decode mi_M_part.2.1 14 = .ok (.iconst (-1), 1) := by decide +kernel
theorem d_M_part_15 : decode mi_M_part.2.1 15 = .ok (.ireturn, 1) := by decide +kernel
theorem d_M_answerLength_0 : decode mi_M_answerLength.2.1 0 = .ok (.aload_n 0, 1) := by decide +kernel
theorem d_M_answerLength_1 : decode mi_M_answerLength.2.1 1 = .ok (.getfield 91, 3) := by decide +kernel
theorem d_M_answerLength_4 : decode mi_M_answerLength.2.1 4 = .ok (.ifCond .eq 10, 3) := by decide +kernel
theorem d_M_answerLength_7 : decode mi_M_answerLength.2.1 7 = .ok (.aload_n 0, 1) := by decide +kernel
theorem d_M_answerLength_8 : decode mi_M_answerLength.2.1 8 = .ok (.getfield 94, 3) := by decide +kernel
theorem d_M_answerLength_11 : decode mi_M_answerLength.2.1 11 = .ok (.goto 4, 3) := by decide +kernel
theorem d_M_answerLength_14 : decode mi_M_answerLength.2.1 14 = .ok (.iconst 0, 1) := by decide +kernel
theorem d_M_answerLength_15 : decode mi_M_answerLength.2.1 15 = .ok (.ireturn, 1) := by decide +kernel
theorem d_M_answer_0 : decode mi_M_answer.2.1 0 = .ok (.aload_n 0, 1) := by decide +kernel
theorem d_M_answer_1 : decode mi_M_answer.2.1 1 = .ok (.getfield 91, 3) := by decide +kernel
theorem d_M_answer_4 : decode mi_M_answer.2.1 4 = .ok (.ifCond .eq 24, 3) := by decide +kernel
theorem d_M_answer_7 : decode mi_M_answer.2.1 7 = .ok (.iload_n 1, 1) := by decide +kernel
theorem d_M_answer_8 : decode mi_M_answer.2.1 8 = .ok (.ifCond .lt 20, 3) := by decide +kernel
theorem d_M_answer_11 : decode mi_M_answer.2.1 11 = .ok (.iload_n 1, 1) := by decide +kernel
theorem d_M_answer_12 : decode mi_M_answer.2.1 12 = .ok (.aload_n 0, 1) := by decide +kernel
theorem d_M_answer_13 : decode mi_M_answer.2.1 13 = .ok (.getfield 94, 3) := by decide +kernel
theorem d_M_answer_16 : decode mi_M_answer.2.1 16 = .ok (.if_icmp .ge 12, 3) := by decide +kernel
theorem d_M_answer_19 : decode mi_M_answer.2.1 19 = .ok (.aload_n 0, 1) := by decide +kernel
theorem d_M_answer_20 : decode mi_M_answer.2.1 20 = .ok (.getfield 69, 3) := by decide +kernel
theorem d_M_answer_23 : decode mi_M_answer.2.1 23 = .ok (.iload_n 1, 1) := by decide +kernel
theorem d_M_answer_24 : decode mi_M_answer.2.1 24 = .ok (.iaload, 1) := by decide +kernel
theorem d_M_answer_25 : decode mi_M_answer.2.1 25 = .ok (.goto 4, 3) := by decide +kernel
theorem d_M_answer_28 : decode mi_M_answer.2.1 28 = .ok (.iconst (-1), 1) := by decide +kernel
theorem d_M_answer_29 : decode mi_M_answer.2.1 29 = .ok (.ireturn, 1) := by decide +kernel
theorem d_M_request_0 : decode mi_M_request.2.1 0 = .ok (.aload_n 0, 1) := by decide +kernel
theorem d_M_request_1 : decode mi_M_request.2.1 1 = .ok (.getfield 91, 3) := by decide +kernel
theorem d_M_request_4 : decode mi_M_request.2.1 4 = .ok (.ifCond .eq 10, 3) := by decide +kernel
theorem d_M_request_7 : decode mi_M_request.2.1 7 = .ok (.aload_n 0, 1) := by decide +kernel
theorem d_M_request_8 : decode mi_M_request.2.1 8 = .ok (.getfield 152, 3) := by decide +kernel
theorem d_M_request_11 : decode mi_M_request.2.1 11 = .ok (.goto 4, 3) := by decide +kernel
theorem d_M_request_14 : decode mi_M_request.2.1 14 = .ok (.iconst (-1), 1) := by decide +kernel
theorem d_M_request_15 : decode mi_M_request.2.1 15 = .ok (.ireturn, 1) := by decide +kernel
theorem d_M_queue_0 : decode mi_M_queue.2.1 0 = .ok (.iload_n 1, 1) := by decide +kernel
theorem d_M_queue_1 : decode mi_M_queue.2.1 1 = .ok (.ifCond .lt 20, 3) := by decide +kernel
theorem d_M_queue_4 : decode mi_M_queue.2.1 4 = .ok (.iload_n 1, 1) := by decide +kernel
theorem d_M_queue_5 : decode mi_M_queue.2.1 5 = .ok (.aload_n 0, 1) := by decide +kernel
theorem d_M_queue_6 : decode mi_M_queue.2.1 6 = .ok (.getfield 82, 3) := by decide +kernel
theorem d_M_queue_9 : decode mi_M_queue.2.1 9 = .ok (.if_icmp .ge 12, 3) := by decide +kernel
theorem d_M_queue_12 : decode mi_M_queue.2.1 12 = .ok (.aload_n 0, 1) := by decide +kernel
theorem d_M_queue_13 : decode mi_M_queue.2.1 13 = .ok (.getfield 39, 3) := by decide +kernel
theorem d_M_queue_16 : decode mi_M_queue.2.1 16 = .ok (.iload_n 1, 1) := by decide +kernel
theorem d_M_queue_17 : decode mi_M_queue.2.1 17 = .ok (.iaload, 1) := by decide +kernel
theorem d_M_queue_18 : decode mi_M_queue.2.1 18 = .ok (.goto 4, 3) := by decide +kernel
theorem d_M_queue_21 : decode mi_M_queue.2.1 21 = .ok (.iconst (-1), 1) := by decide +kernel
theorem d_M_queue_22 : decode mi_M_queue.2.1 22 = .ok (.ireturn, 1) := by decide +kernel
theorem d_M_parcels_0 : decode mi_M_parcels.2.1 0 = .ok (.aload_n 0, 1) := by decide +kernel
theorem d_M_parcels_1 : decode mi_M_parcels.2.1 1 = .ok (.getfield 85, 3) := by decide +kernel
theorem d_M_parcels_4 : decode mi_M_parcels.2.1 4 = .ok (.ireturn, 1) := by decide +kernel
theorem d_M_parcel_0 : decode mi_M_parcel.2.1 0 = .ok (.iload_n 1, 1) := by decide +kernel
theorem d_M_parcel_1 : decode mi_M_parcel.2.1 1 = .ok (.ifCond .lt 20, 3) := by decide +kernel
theorem d_M_parcel_4 : decode mi_M_parcel.2.1 4 = .ok (.iload_n 1, 1) := by decide +kernel
theorem d_M_parcel_5 : decode mi_M_parcel.2.1 5 = .ok (.aload_n 0, 1) := by decide +kernel
theorem d_M_parcel_6 : decode mi_M_parcel.2.1 6 = .ok (.getfield 85, 3) := by decide +kernel
theorem d_M_parcel_9 : decode mi_M_parcel.2.1 9 = .ok (.if_icmp .ge 12, 3) := by decide +kernel
theorem d_M_parcel_12 : decode mi_M_parcel.2.1 12 = .ok (.aload_n 0, 1) := by decide +kernel
theorem d_M_parcel_13 : decode mi_M_parcel.2.1 13 = .ok (.getfield 51, 3) := by decide +kernel
theorem d_M_parcel_16 : decode mi_M_parcel.2.1 16 = .ok (.iload_n 1, 1) := by decide +kernel
theorem d_M_parcel_17 : decode mi_M_parcel.2.1 17 = .ok (.iaload, 1) := by decide +kernel
theorem d_M_parcel_18 : decode mi_M_parcel.2.1 18 = .ok (.goto 4, 3) := by decide +kernel
theorem d_M_parcel_21 : decode mi_M_parcel.2.1 21 = .ok (.iconst (-1), 1) := by decide +kernel
theorem d_M_parcel_22 : decode mi_M_parcel.2.1 22 = .ok (.ireturn, 1) := by decide +kernel
theorem d_M_size_0 : decode mi_M_size.2.1 0 = .ok (.aload_n 0, 1) := by decide +kernel
theorem d_M_size_1 : decode mi_M_size.2.1 1 = .ok (.iload_n 1, 1) := by decide +kernel
theorem d_M_size_2 : decode mi_M_size.2.1 2 = .ok (.invokevirtual 131, 3) := by decide +kernel
theorem d_M_size_5 : decode mi_M_size.2.1 5 = .ok (.ifCond .eq 12, 3) := by decide +kernel
theorem d_M_size_8 : decode mi_M_size.2.1 8 = .ok (.aload_n 0, 1) := by decide +kernel
theorem d_M_size_9 : decode mi_M_size.2.1 9 = .ok (.getfield 24, 3) := by decide +kernel
theorem d_M_size_12 : decode mi_M_size.2.1 12 = .ok (.iload_n 1, 1) := by decide +kernel
theorem d_M_size_13 : decode mi_M_size.2.1 13 = .ok (.iaload, 1) := by decide +kernel
theorem d_M_size_14 : decode mi_M_size.2.1 14 = .ok (.goto 4, 3) := by decide +kernel
theorem d_M_size_17 : decode mi_M_size.2.1 17 = .ok (.iconst (-1), 1) := by decide +kernel
theorem d_M_size_18 : decode mi_M_size.2.1 18 = .ok (.ireturn, 1) := by decide +kernel
end
section
abbrev cn_I : Type := Nat → Nat → Int32
abbrev cn_P : Type := Nat → Nat → Option Nat
abbrev cn_S : Type := Nat × Nat × (Nat → Nat ⊕ (Nat × Nat))
abbrev cn_E : Type := Nat × Nat × Nat × (Nat → Int32) × (Nat → ClassId) × (Nat → Nat → Nat) × (Nat → ClassId)
abbrev cn_b (en : cn_E) : Nat := en.1
abbrev cn_B (en : cn_E) : Nat := en.2.1
abbrev cn_L (en : cn_E) : Nat := en.2.2.1
abbrev cn_x (en : cn_E) : Nat → Int32 := en.2.2.2.1
abbrev cn_D (en : cn_E) : va_G := (en.2.2.2.2.1, en.2.2.2.2.2.1)
abbrev cn_dA (en : cn_E) : Nat → ClassId := en.2.2.2.2.2.2
abbrev cn_A (en : cn_E) : Nat → Prop := fun q => cn_B en ≤ q
def cn_ad (en : cn_E) (k : Nat) : Nat := if k = 1000000 then cn_b en else cn_B en + k
def cn_rv (en : cn_E) (v : Value) : Value := match v with
  | .ref k => .ref (cn_ad en k)
  | w => w
theorem cn_rv_cat (en : cn_E) (v : Value) : (cn_rv en v).category = v.category := by cases v <;> rfl
def cn_lv (en : cn_E) (lv : List (Nat × Value)) : List (Nat × Value) := lv.map (fun q => (q.1, cn_rv en q.2))
def cn_isr (t : FieldType) : Bool := match t with
  | .object _ => true
  | .array _ => true
  | _ => false
def cn_fv (en : cn_E) (ci j : Nat) (x : Int32) (r : Option Nat) : Value := if cn_isr (cn_ft ci j) = true then va_rf (r.map (cn_ad en)) else .int x
def cn_fs (en : cn_E) (ci : Nat) (f : Nat → Int32) (g : Nat → Option Nat) : List Value := (List.range (cn_NF ci)).map (fun j => cn_fv en ci j (f j) (g j))
def cn_cell (en : cn_E) (S : cn_S) (I : cn_I) (P : cn_P) (k : Nat) : va_E := match S.2.2 k with
  | .inl ci => .inr (ci, cn_fs en ci (I k) (P k))
  | .inr (t, n) => .inl (cn_dA en t, n, if t < 3 then .inl (I k) else .inr (.inr (.inr (.inr (fun j => (P k j).map (cn_ad en))))))
def cn_ws (en : cn_E) (S : cn_S) (I : cn_I) (P : cn_P) : va_W := (List.range S.1).map (fun k => (cn_B en + k, cn_cell en S I P k))
theorem cn_ws_at {en : cn_E} {S : cn_S} {I : cn_I} {P : cn_P} {k : Nat} (h : k < S.1) : (cn_ws en S I P)[k]? = some (cn_B en + k, cn_cell en S I P k) := by
  simp [cn_ws, List.getElem?_map, List.getElem?_range h]
theorem cn_ws_inv {en : cn_E} {S : cn_S} {I : cn_I} {P : cn_P} {k : Nat} {q : Nat × va_E} (h : (cn_ws en S I P)[k]? = some q) : k < S.1 ∧ q = (cn_B en + k, cn_cell en S I P k) := by
  have hk : k < S.1 := by
    have h1 := (List.getElem?_eq_some_iff.mp h).1
    simpa [cn_ws] using h1
  rw [cn_ws_at hk] at h
  exact ⟨hk, (Option.some.inj h).symm⟩
theorem cn_ws_D (en : cn_E) (S : cn_S) (I : cn_I) (P : cn_P) : va_D (cn_A en) (cn_ws en S I P) := by
  refine ⟨fun i j x y hi hj hxy => ?_, fun k q hk => ?_⟩
  · obtain ⟨-, rfl⟩ := cn_ws_inv hi
    obtain ⟨-, rfl⟩ := cn_ws_inv hj
    have h : cn_B en + i = cn_B en + j := hxy
    omega
  · obtain ⟨-, rfl⟩ := cn_ws_inv hk
    exact Nat.le_add_right _ _
theorem cn_cell_congr {en : cn_E} {S : cn_S} {I I' : cn_I} {P P' : cn_P} {k : Nat} (hI : I' k = I k) (hP : P' k = P k) : cn_cell en S I' P' k = cn_cell en S I P k := by
  unfold cn_cell
  rw [hI, hP]
theorem cn_ws_set {en : cn_E} {S : cn_S} {I I' : cn_I} {P P' : cn_P} {a : Nat} (ha : a < S.1) (hI : ∀ k, k ≠ a → I' k = I k) (hP : ∀ k, k ≠ a → P' k = P k) : (cn_ws en S I P).set a (cn_B en + a, cn_cell en S I' P' a) = cn_ws en S I' P' := by
  apply List.ext_getElem?
  intro k
  by_cases hk : k = a
  · subst hk
    rw [List.getElem?_set_self (by simpa [cn_ws] using ha), cn_ws_at ha]
  · rw [List.getElem?_set_ne (Ne.symm hk)]
    by_cases hl : k < S.1
    · rw [cn_ws_at hl, cn_ws_at hl, cn_cell_congr (hI k hk) (hP k hk)]
    · have e1 : (cn_ws en S I P).length ≤ k := by simp [cn_ws]; omega
      have e2 : (cn_ws en S I' P').length ≤ k := by simp [cn_ws]; omega
      rw [List.getElem?_eq_none e1, List.getElem?_eq_none e2]
def cn_wi (I : cn_I) (a k : Nat) (v : Int32) : cn_I := fun a' => if a' = a then upd (I a) k v else I a'
def cn_wp (P : cn_P) (a k : Nat) (r : Option Nat) : cn_P := fun a' => if a' = a then va_up (P a) k r else P a'
def cn_wr (I : cn_I) (a : Nat) (f : Nat → Int32) : cn_I := fun a' => if a' = a then f else I a'
theorem cn_wi_row {I : cn_I} {a k : Nat} {v : Int32} : cn_wi I a k v a = upd (I a) k v := if_pos rfl
theorem cn_wi_ne {I : cn_I} {a k b : Nat} {v : Int32} (h : b ≠ a) : cn_wi I a k v b = I b := if_neg h
theorem cn_wp_row {P : cn_P} {a k : Nat} {r : Option Nat} : cn_wp P a k r a = va_up (P a) k r := if_pos rfl
theorem cn_wp_ne {P : cn_P} {a k b : Nat} {r : Option Nat} (h : b ≠ a) : cn_wp P a k r b = P b := if_neg h
theorem cn_wr_row {I : cn_I} {a : Nat} {f : Nat → Int32} : cn_wr I a f a = f := if_pos rfl
theorem cn_wr_ne {I : cn_I} {a b : Nat} {f : Nat → Int32} (h : b ≠ a) : cn_wr I a f b = I b := if_neg h
theorem cn_fs_at {en : cn_E} {ci k : Nat} {f : Nat → Int32} {g : Nat → Option Nat} (hk : k < cn_NF ci) : (cn_fs en ci f g)[k]? = some (cn_fv en ci k (f k) (g k)) := by
  simp [cn_fs, List.getElem?_map, List.getElem?_range hk]
theorem cn_fs_len {en : cn_E} {ci : Nat} {f : Nat → Int32} {g : Nat → Option Nat} : (cn_fs en ci f g).length = cn_NF ci := by simp [cn_fs]
theorem cn_fs_seti {en : cn_E} {ci k : Nat} {f : Nat → Int32} {g : Nat → Option Nat} {v : Int32} (hk : k < cn_NF ci) (hr : cn_isr (cn_ft ci k) = false) : (cn_fs en ci f g).set k (.int v) = cn_fs en ci (upd f k v) g := by
  apply List.ext_getElem?
  intro j
  by_cases hj : j = k
  · subst hj
    rw [List.getElem?_set_self (by rw [cn_fs_len]; exact hk), cn_fs_at hk]
    simp [cn_fv, hr, upd]
  · rw [List.getElem?_set_ne (Ne.symm hj)]
    by_cases hl : j < cn_NF ci
    · rw [cn_fs_at hl, cn_fs_at hl]
      simp [upd, hj]
    · rw [List.getElem?_eq_none (by rw [cn_fs_len]; omega), List.getElem?_eq_none (by rw [cn_fs_len]; omega)]
theorem cn_fs_setp {en : cn_E} {ci k : Nat} {f : Nat → Int32} {g : Nat → Option Nat} {r : Option Nat} (hk : k < cn_NF ci) (hr : cn_isr (cn_ft ci k) = true) : (cn_fs en ci f g).set k (va_rf (r.map (cn_ad en))) = cn_fs en ci f (va_up g k r) := by
  apply List.ext_getElem?
  intro j
  by_cases hj : j = k
  · subst hj
    rw [List.getElem?_set_self (by rw [cn_fs_len]; exact hk), cn_fs_at hk]
    simp [cn_fv, hr, va_up]
  · rw [List.getElem?_set_ne (Ne.symm hj)]
    by_cases hl : j < cn_NF ci
    · rw [cn_fs_at hl, cn_fs_at hl]
      simp [va_up, hj]
    · rw [List.getElem?_eq_none (by rw [cn_fs_len]; omega), List.getElem?_eq_none (by rw [cn_fs_len]; omega)]
def cn_ob (S : cn_S) (a ci : Nat) : Prop := a < S.1 ∧ S.2.2 a = .inl ci
def cn_ar (S : cn_S) (a t n : Nat) : Prop := a < S.1 ∧ S.2.2 a = .inr (t, n)
theorem cn_ob_cell {en : cn_E} {S : cn_S} {I : cn_I} {P : cn_P} {a ci : Nat} (h : cn_ob S a ci) : cn_cell en S I P a = .inr (ci, cn_fs en ci (I a) (P a)) := by
  unfold cn_cell
  rw [h.2]
theorem cn_ar_cell {en : cn_E} {S : cn_S} {I : cn_I} {P : cn_P} {a t n : Nat} (h : cn_ar S a t n) (ht : t < 3) : cn_cell en S I P a = .inl (cn_dA en t, n, .inl (I a)) := by
  unfold cn_cell
  rw [h.2]
  simp [ht]
theorem cn_ar_cellq {en : cn_E} {S : cn_S} {I : cn_I} {P : cn_P} {a t n : Nat} (h : cn_ar S a t n) (ht : ¬ t < 3) : cn_cell en S I P a = .inl (cn_dA en t, n, .inr (.inr (.inr (.inr (fun j => (P a j).map (cn_ad en)))))) := by
  unfold cn_cell
  rw [h.2]
  simp [ht]
def cn_ty : Nat → FieldType := fun t => match t with
  | 0 => .int
  | 1 => .byte
  | 2 => .boolean
  | 3 => .object "ChunkedNodes$Node"
  | 4 => .object "ChunkedNodes$Item"
  | 5 => .object "ChunkedNodes$Notice"
  | _ => .object "ChunkedNodes$Parcel"
def cn_tys (en : cn_E) : List (ClassId × FieldType) := (List.range 7).map (fun t => (cn_dA en t, cn_ty t))
theorem cn_tys_at {en : cn_E} {t : Nat} (h : t < 7) : (cn_tys en)[t]? = some (cn_dA en t, cn_ty t) := by
  simp [cn_tys, List.getElem?_map, List.getElem?_range h]
def cn_O : List String := ["ChunkedNodes$Node", "ChunkedNodes$Item", "ChunkedNodes$Notice", "ChunkedNodes$Parcel"]
def cn_K (en : cn_E) (U : State) : Prop := va_K (cn_D en) cn_cl (cn_tys en) U ∧ (∀ w ∈ cn_N, va_Nw w U) ∧ ∀ C ∈ cn_O, va_AO C U
theorem cn_K.warm {en : cn_E} {s U : State} (hW : s.WarmedH U.vm) (h : cn_K en s) : cn_K en U := by
  refine ⟨va_K.moved hW.alike h.1, fun w hw => ?_, fun C hC => va_AO.moved hW.alike (h.2.2 C hC)⟩
  have h1 := h.2.1 w hw
  have h2 := (List.mem_filter.mp hw).2
  cases w <;> first | exact va_Nw.warmF hW h1 | exact va_Nw.warmM hW h1 | cases h2
theorem cn_K.call {en : cn_E} {U : State} {g : JFrame} {mk : MethodId} {a : Array Value} (h : cn_K en U) : cn_K en (U.calling g mk a) := by
  refine ⟨va_K.moved (u := U) (U := U.calling g mk a) (Vm.Alike.refl U.vm) h.1, fun w hw => ?_, fun C hC => va_AO.moved (u := U) (U := U.calling g mk a) (Vm.Alike.refl U.vm) (h.2.2 C hC)⟩
  have h1 := h.2.1 w hw
  have h2 := (List.mem_filter.mp hw).2
  cases w <;> first | exact va_Nw.same (u := U) (U := U.calling g mk a) rfl rfl h1 | cases h2
def cn_bok (S : cn_S) (I : cn_I) : Prop := ∀ (a n : Nat), S.2.2 a = .inr (1, n) → ∀ j : Nat, fits .byte (.int (I a j)) = true
def cn_H (en : cn_E) (S : cn_S) (I : cn_I) (P : cn_P) (H : Heap) : Prop := va_P (cn_D en) cn_cl (cn_ws en S I P) H ∧ H.size = cn_B en + S.1 ∧ cn_bok S I ∧ S.1 ≤ 1000000
def cn_C (en : cn_E) (mi : cn_M) (d : Nat) (p : Program) (s : State) (m : MethodId) (args : Array Value) (meth : Method) (c : Code) (R : Room) : Prop :=
  p.tables.exec = Jvm.exec ∧ c.code = mi.2.1 ∧ c.maxLocals = mi.2.2.1 ∧ meth.sig.returnType = mi.2.2.2 ∧ s.vm.findClass mi.1.cls = some m.cls ∧ (∀ w ∈ cn_T, w.before args s = true) ∧ meth.locks = false ∧ (mi.1.name = "<init>" → meth.name = "<init>") ∧ cn_K en s ∧ va_X (cn_b en) (cn_L en) (cn_x en) s s.heap ∧ cn_b en < cn_B en ∧ cn_B en ≤ s.heap.size ∧ d ≤ R.frames ∧ 64 * d ≤ R.locals
def cn_ret (mi : cn_M) (pc : Nat) (r : Option Value) : Prop :=
  (r = none ∧ mi.2.2.2 = none ∧ decode mi.2.1 pc = .ok (.return_, 1)) ∨ (∃ v : Int32, r = some (.int v) ∧ decode mi.2.1 pc = .ok (.ireturn, 1) ∧ ∃ ty : FieldType, mi.2.2.2 = some ty ∧ narrow ty (.int v) = .int v) ∨ (∃ a : Nat, r = some (.ref a) ∧ decode mi.2.1 pc = .ok (.areturn, 1) ∧ ∃ n : String, mi.2.2.2 = some (.object n))
/-- THE JUDGEMENT: method mi at pc with the locals lv, the stack st, over the flat memory (S, I, P), comes to a return with Q; at most d frames deep, kc cells and ks slots more -/
def cn_V (l : Launch) (en : cn_E) (mi : cn_M) (d kc ks : Nat) (S : cn_S) (I : cn_I) (P : cn_P) (Q : Option Value → cn_S → cn_I → cn_P → Prop) (pc : Nat) (lv : List (Nat × Value)) (st : List Value) : Prop :=
  ∀ (p : Program) (e : Env) (R : Room) (s : State) (m : MethodId) (args : Array Value) (below : List Frame) (meth : Method) (c : Code) (Z : State → Prop) (H : Heap) (locs : List Loc) (cells slots : Nat) (ls : Array Slot),
    cn_C en mi d p s m args meth c R → cells + kc ≤ R.cells → slots + ks ≤ R.slots → cn_H en S I P H → va_S (cn_A en) s.heap H locs → lv_has ls mi.2.2.1 (cn_lv en lv) →
    (∀ (r : Option Value) (S' : cn_S) (I' : cn_I) (P' : cn_P) (H' : Heap) (locs' : List Loc) (cells' slots' pc' : Nat) (ls' : Array Slot), Q r S' I' P' → cn_H en S' I' P' H' → va_S (cn_A en) s.heap H' locs' → cells' ≤ cells + kc → slots' ≤ slots + ks → cn_ret mi pc' r →
      W p l e R s m args below meth c H' locs' cells' slots' Z (F0 m pc' ls' (r.toList.map (cn_rv en)))) →
    W p l e R s m args below meth c H locs cells slots Z (F0 m pc ls (st.map (cn_rv en)))
theorem cn_lv_at {en : cn_E} {lv : List (Nat × Value)} {ls : Array Slot} {n k i : Nat} {v : Value} (h : lv_has ls n (cn_lv en lv)) (hk : lv[k]? = some (i, v)) : ls[i]? = some (.val (cn_rv en v)) := by
  refine h.2.2 (i, cn_rv en v) (List.mem_map.mpr ⟨(i, v), List.mem_of_getElem? hk, rfl⟩)
def cn_st (i : Nat) (v : Value) (lv : List (Nat × Value)) (ks : List Nat) : List (Nat × Value) := lv_pick ((i, v) :: lv.filter (fun q => !(q.1 == i) && !(q.1 + 1 == i && q.2.category == 2))) ks
def cn_st2 (i : Nat) (v : Value) (lv : List (Nat × Value)) (ks : List Nat) : List (Nat × Value) := lv_pick ((i, v) :: lv.filter (fun q => !(q.1 == i) && (!(q.1 == i + 1) && !(q.1 + 1 == i && q.2.category == 2)))) ks
theorem cn_lv_pick {en : cn_E} {l : List (Nat × Value)} {ls : Array Slot} {n : Nat} (ks : List Nat) (h : lv_has ls n (cn_lv en l)) : lv_has ls n (cn_lv en (lv_pick l ks)) := by
  refine ⟨h.1, h.2.1, fun q hq => ?_⟩
  obtain ⟨q0, h1, rfl⟩ := List.mem_map.mp hq
  obtain ⟨k, -, hk⟩ := List.mem_filterMap.mp h1
  exact h.2.2 _ (List.mem_map.mpr ⟨q0, List.mem_of_getElem? hk, rfl⟩)
theorem cn_lv_filter (en : cn_E) (lv : List (Nat × Value)) (f : Nat → Nat → Bool) : (cn_lv en lv).filter (fun q => f q.1 q.2.category) = cn_lv en (lv.filter (fun q => f q.1 q.2.category)) := by
  unfold cn_lv
  rw [List.filter_map]
  congr 1
  apply List.filter_congr
  intro q _
  simp [cn_rv_cat]
theorem cn_iconst {l : Launch} {en : cn_E} {mi : cn_M} {d kc ks : Nat} {S : cn_S} {I : cn_I} {P : cn_P} {Q : Option Value → cn_S → cn_I → cn_P → Prop} {pc pc' : Nat} {lv : List (Nat × Value)} {st : List Value} {n : Int} {v : Int32} (hv : Int32.ofInt n = v) (hd : decode mi.2.1 pc = .ok (.iconst n, 1)) (hp : pc + 1 = pc') (K : cn_V l en mi d kc ks S I P Q pc' lv (.int v :: st)) : cn_V l en mi d kc ks S I P Q pc lv st := by
  subst hp
  intro p e R s m args below meth c Z H locs cells slots ls C hc hs hH hS hl hk
  exact lv_iconst C.1 C.2.1 hd hv (K p e R s m args below meth c Z H locs cells slots ls C hc hs hH hS hl hk)
theorem cn_bipush {l : Launch} {en : cn_E} {mi : cn_M} {d kc ks : Nat} {S : cn_S} {I : cn_I} {P : cn_P} {Q : Option Value → cn_S → cn_I → cn_P → Prop} {pc pc' : Nat} {lv : List (Nat × Value)} {st : List Value} {n : Int} {v : Int32} (hv : (Int8.ofInt n).toInt32 = v) (hd : decode mi.2.1 pc = .ok (.bipush n, 2)) (hp : pc + 2 = pc') (K : cn_V l en mi d kc ks S I P Q pc' lv (.int v :: st)) : cn_V l en mi d kc ks S I P Q pc lv st := by
  subst hp
  intro p e R s m args below meth c Z H locs cells slots ls C hc hs hH hS hl hk
  exact lv_bipush C.1 C.2.1 hd hv (K p e R s m args below meth c Z H locs cells slots ls C hc hs hH hS hl hk)
theorem cn_sipush {l : Launch} {en : cn_E} {mi : cn_M} {d kc ks : Nat} {S : cn_S} {I : cn_I} {P : cn_P} {Q : Option Value → cn_S → cn_I → cn_P → Prop} {pc pc' : Nat} {lv : List (Nat × Value)} {st : List Value} {n : Int} {v : Int32} (hv : (Int16.ofInt n).toInt32 = v) (hd : decode mi.2.1 pc = .ok (.sipush n, 3)) (hp : pc + 3 = pc') (K : cn_V l en mi d kc ks S I P Q pc' lv (.int v :: st)) : cn_V l en mi d kc ks S I P Q pc lv st := by
  subst hp
  intro p e R s m args below meth c Z H locs cells slots ls C hc hs hH hS hl hk
  exact lv_sipush C.1 C.2.1 hd hv (K p e R s m args below meth c Z H locs cells slots ls C hc hs hH hS hl hk)
theorem cn_lconst {l : Launch} {en : cn_E} {mi : cn_M} {d kc ks : Nat} {S : cn_S} {I : cn_I} {P : cn_P} {Q : Option Value → cn_S → cn_I → cn_P → Prop} {pc pc' : Nat} {lv : List (Nat × Value)} {st : List Value} {n : Fin 2} {v : Int64} (hv : Int64.ofNat (n : Nat) = v) (hd : decode mi.2.1 pc = .ok (.lconst n, 1)) (hp : pc + 1 = pc') (K : cn_V l en mi d kc ks S I P Q pc' lv (.long v :: st)) : cn_V l en mi d kc ks S I P Q pc lv st := by
  subst hp
  intro p e R s m args below meth c Z H locs cells slots ls C hc hs hH hS hl hk
  exact lv_lconst C.1 C.2.1 hd hv (K p e R s m args below meth c Z H locs cells slots ls C hc hs hH hS hl hk)
theorem cn_ldc2 {l : Launch} {en : cn_E} {mi : cn_M} {d kc ks : Nat} {S : cn_S} {I : cn_I} {P : cn_P} {Q : Option Value → cn_S → cn_I → cn_P → Prop} {pc pc' : Nat} {lv : List (Nat × Value)} {st : List Value} {idx : Nat} {v : Int64} (hw : Cond.constantLong mi.1.cls idx v ∈ cn_T) (hd : decode mi.2.1 pc = .ok (.ldc2_w idx, 3)) (hp : pc + 3 = pc') (K : cn_V l en mi d kc ks S I P Q pc' lv (.long v :: st)) : cn_V l en mi d kc ks S I P Q pc lv st := by
  subst hp
  intro p e R s m args below meth c Z H locs cells slots ls C hc hs hH hS hl hk
  exact lv_ldc2 C.1 C.2.1 C.2.2.2.2.1 (C.2.2.2.2.2.1 _ hw) hd (K p e R s m args below meth c Z H locs cells slots ls C hc hs hH hS hl hk)
theorem cn_iload_n {l : Launch} {en : cn_E} {mi : cn_M} {d kc ks : Nat} {S : cn_S} {I : cn_I} {P : cn_P} {Q : Option Value → cn_S → cn_I → cn_P → Prop} {pc pc' : Nat} {lv : List (Nat × Value)} {st : List Value} {j : Fin 4} {i k : Nat} {x : Int32} (hi : (j : Nat) = i) (hv : lv[k]? = some (i, .int x)) (hd : decode mi.2.1 pc = .ok (.iload_n j, 1)) (hp : pc + 1 = pc') (K : cn_V l en mi d kc ks S I P Q pc' lv (.int x :: st)) : cn_V l en mi d kc ks S I P Q pc lv st := by
  subst hp
  intro p e R s m args below meth c Z H locs cells slots ls C hc hs hH hS hl hk
  exact lv_iload_n C.1 C.2.1 hd hi (cn_lv_at hl hv) (K p e R s m args below meth c Z H locs cells slots ls C hc hs hH hS hl hk)
theorem cn_iload {l : Launch} {en : cn_E} {mi : cn_M} {d kc ks : Nat} {S : cn_S} {I : cn_I} {P : cn_P} {Q : Option Value → cn_S → cn_I → cn_P → Prop} {pc pc' : Nat} {lv : List (Nat × Value)} {st : List Value} {i k : Nat} {x : Int32} (hv : lv[k]? = some (i, .int x)) (hd : decode mi.2.1 pc = .ok (.iload i, 2)) (hp : pc + 2 = pc') (K : cn_V l en mi d kc ks S I P Q pc' lv (.int x :: st)) : cn_V l en mi d kc ks S I P Q pc lv st := by
  subst hp
  intro p e R s m args below meth c Z H locs cells slots ls C hc hs hH hS hl hk
  exact lv_iload C.1 C.2.1 hd (cn_lv_at hl hv) (K p e R s m args below meth c Z H locs cells slots ls C hc hs hH hS hl hk)
theorem cn_lload_n {l : Launch} {en : cn_E} {mi : cn_M} {d kc ks : Nat} {S : cn_S} {I : cn_I} {P : cn_P} {Q : Option Value → cn_S → cn_I → cn_P → Prop} {pc pc' : Nat} {lv : List (Nat × Value)} {st : List Value} {j : Fin 4} {i k : Nat} {x : Int64} (hi : (j : Nat) = i) (hv : lv[k]? = some (i, .long x)) (hd : decode mi.2.1 pc = .ok (.lload_n j, 1)) (hp : pc + 1 = pc') (K : cn_V l en mi d kc ks S I P Q pc' lv (.long x :: st)) : cn_V l en mi d kc ks S I P Q pc lv st := by
  subst hp
  intro p e R s m args below meth c Z H locs cells slots ls C hc hs hH hS hl hk
  exact lv_lload_n C.1 C.2.1 hd hi (cn_lv_at hl hv) (K p e R s m args below meth c Z H locs cells slots ls C hc hs hH hS hl hk)
theorem cn_lload {l : Launch} {en : cn_E} {mi : cn_M} {d kc ks : Nat} {S : cn_S} {I : cn_I} {P : cn_P} {Q : Option Value → cn_S → cn_I → cn_P → Prop} {pc pc' : Nat} {lv : List (Nat × Value)} {st : List Value} {i k : Nat} {x : Int64} (hv : lv[k]? = some (i, .long x)) (hd : decode mi.2.1 pc = .ok (.lload i, 2)) (hp : pc + 2 = pc') (K : cn_V l en mi d kc ks S I P Q pc' lv (.long x :: st)) : cn_V l en mi d kc ks S I P Q pc lv st := by
  subst hp
  intro p e R s m args below meth c Z H locs cells slots ls C hc hs hH hS hl hk
  exact lv_lload C.1 C.2.1 hd (cn_lv_at hl hv) (K p e R s m args below meth c Z H locs cells slots ls C hc hs hH hS hl hk)
theorem cn_aload_n {l : Launch} {en : cn_E} {mi : cn_M} {d kc ks : Nat} {S : cn_S} {I : cn_I} {P : cn_P} {Q : Option Value → cn_S → cn_I → cn_P → Prop} {pc pc' : Nat} {lv : List (Nat × Value)} {st : List Value} {j : Fin 4} {i k : Nat} {x : Nat} (hi : (j : Nat) = i) (hv : lv[k]? = some (i, .ref x)) (hd : decode mi.2.1 pc = .ok (.aload_n j, 1)) (hp : pc + 1 = pc') (K : cn_V l en mi d kc ks S I P Q pc' lv (.ref x :: st)) : cn_V l en mi d kc ks S I P Q pc lv st := by
  subst hp
  intro p e R s m args below meth c Z H locs cells slots ls C hc hs hH hS hl hk
  exact lv_aload_n C.1 C.2.1 hd hi (cn_lv_at hl hv) (K p e R s m args below meth c Z H locs cells slots ls C hc hs hH hS hl hk)
theorem cn_aload {l : Launch} {en : cn_E} {mi : cn_M} {d kc ks : Nat} {S : cn_S} {I : cn_I} {P : cn_P} {Q : Option Value → cn_S → cn_I → cn_P → Prop} {pc pc' : Nat} {lv : List (Nat × Value)} {st : List Value} {i k : Nat} {x : Nat} (hv : lv[k]? = some (i, .ref x)) (hd : decode mi.2.1 pc = .ok (.aload i, 2)) (hp : pc + 2 = pc') (K : cn_V l en mi d kc ks S I P Q pc' lv (.ref x :: st)) : cn_V l en mi d kc ks S I P Q pc lv st := by
  subst hp
  intro p e R s m args below meth c Z H locs cells slots ls C hc hs hH hS hl hk
  exact lv_aload C.1 C.2.1 hd (cn_lv_at hl hv) (K p e R s m args below meth c Z H locs cells slots ls C hc hs hH hS hl hk)
theorem cn_istore_n {l : Launch} {en : cn_E} {mi : cn_M} {d kc ks : Nat} {S : cn_S} {I : cn_I} {P : cn_P} {Q : Option Value → cn_S → cn_I → cn_P → Prop} {pc pc' : Nat} {lv : List (Nat × Value)} {st : List Value} {lv' : List (Nat × Value)} {j : Fin 4} {i : Nat} {x : Int32} (hi : (j : Nat) = i) (pk : List Nat) (hn : i < mi.2.2.1) (hlv : cn_st i (.int x) lv pk = lv') (hd : decode mi.2.1 pc = .ok (.istore_n j, 1)) (hp : pc + 1 = pc') (K : cn_V l en mi d kc ks S I P Q pc' lv' st) : cn_V l en mi d kc ks S I P Q pc lv (.int x :: st) := by
  subst hp; subst hlv
  intro p e R s m args below meth c Z H locs cells slots ls C hc hs hH hS hl hk
  refine lv_istore_n C.1 C.2.1 hd hi hl hn rfl (fun ls' h' => K p e R s m args below meth c Z H locs cells slots ls' C hc hs hH hS ?_ hk)
  have e1 := cn_lv_filter en lv (fun a c => !(a == i) && !(a + 1 == i && c == 2))
  have e2 : lv_has ls' mi.2.2.1 (cn_lv en ((i, .int x) :: lv.filter (fun q => (fun a c => !(a == i) && !(a + 1 == i && c == 2)) q.1 q.2.category))) := by
    have e3 : cn_lv en ((i, .int x) :: lv.filter (fun q => (fun a c => !(a == i) && !(a + 1 == i && c == 2)) q.1 q.2.category)) = (i, cn_rv en (.int x)) :: cn_lv en (lv.filter (fun q => (fun a c => !(a == i) && !(a + 1 == i && c == 2)) q.1 q.2.category)) := rfl
    rw [e3, ← e1]
    exact h'
  exact cn_lv_pick pk e2
theorem cn_istore {l : Launch} {en : cn_E} {mi : cn_M} {d kc ks : Nat} {S : cn_S} {I : cn_I} {P : cn_P} {Q : Option Value → cn_S → cn_I → cn_P → Prop} {pc pc' : Nat} {lv : List (Nat × Value)} {st : List Value} {lv' : List (Nat × Value)} {i : Nat} {x : Int32} (pk : List Nat) (hn : i < mi.2.2.1) (hlv : cn_st i (.int x) lv pk = lv') (hd : decode mi.2.1 pc = .ok (.istore i, 2)) (hp : pc + 2 = pc') (K : cn_V l en mi d kc ks S I P Q pc' lv' st) : cn_V l en mi d kc ks S I P Q pc lv (.int x :: st) := by
  subst hp; subst hlv
  intro p e R s m args below meth c Z H locs cells slots ls C hc hs hH hS hl hk
  refine lv_istore C.1 C.2.1 hd hl hn rfl (fun ls' h' => K p e R s m args below meth c Z H locs cells slots ls' C hc hs hH hS ?_ hk)
  have e1 := cn_lv_filter en lv (fun a c => !(a == i) && !(a + 1 == i && c == 2))
  have e2 : lv_has ls' mi.2.2.1 (cn_lv en ((i, .int x) :: lv.filter (fun q => (fun a c => !(a == i) && !(a + 1 == i && c == 2)) q.1 q.2.category))) := by
    have e3 : cn_lv en ((i, .int x) :: lv.filter (fun q => (fun a c => !(a == i) && !(a + 1 == i && c == 2)) q.1 q.2.category)) = (i, cn_rv en (.int x)) :: cn_lv en (lv.filter (fun q => (fun a c => !(a == i) && !(a + 1 == i && c == 2)) q.1 q.2.category)) := rfl
    rw [e3, ← e1]
    exact h'
  exact cn_lv_pick pk e2
theorem cn_lstore_n {l : Launch} {en : cn_E} {mi : cn_M} {d kc ks : Nat} {S : cn_S} {I : cn_I} {P : cn_P} {Q : Option Value → cn_S → cn_I → cn_P → Prop} {pc pc' : Nat} {lv : List (Nat × Value)} {st : List Value} {lv' : List (Nat × Value)} {j : Fin 4} {i : Nat} {x : Int64} (hi : (j : Nat) = i) (pk : List Nat) (hn : i + 1 < mi.2.2.1) (hlv : cn_st2 i (.long x) lv pk = lv') (hd : decode mi.2.1 pc = .ok (.lstore_n j, 1)) (hp : pc + 1 = pc') (K : cn_V l en mi d kc ks S I P Q pc' lv' st) : cn_V l en mi d kc ks S I P Q pc lv (.long x :: st) := by
  subst hp; subst hlv
  intro p e R s m args below meth c Z H locs cells slots ls C hc hs hH hS hl hk
  refine lv_lstore_n C.1 C.2.1 hd hi hl hn rfl (fun ls' h' => K p e R s m args below meth c Z H locs cells slots ls' C hc hs hH hS ?_ hk)
  have e1 := cn_lv_filter en lv (fun a c => !(a == i) && (!(a == i + 1) && !(a + 1 == i && c == 2)))
  have e2 : lv_has ls' mi.2.2.1 (cn_lv en ((i, .long x) :: lv.filter (fun q => (fun a c => !(a == i) && (!(a == i + 1) && !(a + 1 == i && c == 2))) q.1 q.2.category))) := by
    have e3 : cn_lv en ((i, .long x) :: lv.filter (fun q => (fun a c => !(a == i) && (!(a == i + 1) && !(a + 1 == i && c == 2))) q.1 q.2.category)) = (i, cn_rv en (.long x)) :: cn_lv en (lv.filter (fun q => (fun a c => !(a == i) && (!(a == i + 1) && !(a + 1 == i && c == 2))) q.1 q.2.category)) := rfl
    rw [e3, ← e1]
    exact h'
  exact cn_lv_pick pk e2
theorem cn_lstore {l : Launch} {en : cn_E} {mi : cn_M} {d kc ks : Nat} {S : cn_S} {I : cn_I} {P : cn_P} {Q : Option Value → cn_S → cn_I → cn_P → Prop} {pc pc' : Nat} {lv : List (Nat × Value)} {st : List Value} {lv' : List (Nat × Value)} {i : Nat} {x : Int64} (pk : List Nat) (hn : i + 1 < mi.2.2.1) (hlv : cn_st2 i (.long x) lv pk = lv') (hd : decode mi.2.1 pc = .ok (.lstore i, 2)) (hp : pc + 2 = pc') (K : cn_V l en mi d kc ks S I P Q pc' lv' st) : cn_V l en mi d kc ks S I P Q pc lv (.long x :: st) := by
  subst hp; subst hlv
  intro p e R s m args below meth c Z H locs cells slots ls C hc hs hH hS hl hk
  refine lv_lstore C.1 C.2.1 hd hl hn rfl (fun ls' h' => K p e R s m args below meth c Z H locs cells slots ls' C hc hs hH hS ?_ hk)
  have e1 := cn_lv_filter en lv (fun a c => !(a == i) && (!(a == i + 1) && !(a + 1 == i && c == 2)))
  have e2 : lv_has ls' mi.2.2.1 (cn_lv en ((i, .long x) :: lv.filter (fun q => (fun a c => !(a == i) && (!(a == i + 1) && !(a + 1 == i && c == 2))) q.1 q.2.category))) := by
    have e3 : cn_lv en ((i, .long x) :: lv.filter (fun q => (fun a c => !(a == i) && (!(a == i + 1) && !(a + 1 == i && c == 2))) q.1 q.2.category)) = (i, cn_rv en (.long x)) :: cn_lv en (lv.filter (fun q => (fun a c => !(a == i) && (!(a == i + 1) && !(a + 1 == i && c == 2))) q.1 q.2.category)) := rfl
    rw [e3, ← e1]
    exact h'
  exact cn_lv_pick pk e2
theorem cn_astore_n {l : Launch} {en : cn_E} {mi : cn_M} {d kc ks : Nat} {S : cn_S} {I : cn_I} {P : cn_P} {Q : Option Value → cn_S → cn_I → cn_P → Prop} {pc pc' : Nat} {lv : List (Nat × Value)} {st : List Value} {lv' : List (Nat × Value)} {j : Fin 4} {i : Nat} {x : Nat} (hi : (j : Nat) = i) (pk : List Nat) (hn : i < mi.2.2.1) (hlv : cn_st i (.ref x) lv pk = lv') (hd : decode mi.2.1 pc = .ok (.astore_n j, 1)) (hp : pc + 1 = pc') (K : cn_V l en mi d kc ks S I P Q pc' lv' st) : cn_V l en mi d kc ks S I P Q pc lv (.ref x :: st) := by
  subst hp; subst hlv
  intro p e R s m args below meth c Z H locs cells slots ls C hc hs hH hS hl hk
  refine lv_astore_n C.1 C.2.1 hd hi hl hn rfl (fun ls' h' => K p e R s m args below meth c Z H locs cells slots ls' C hc hs hH hS ?_ hk)
  have e1 := cn_lv_filter en lv (fun a c => !(a == i) && !(a + 1 == i && c == 2))
  have e2 : lv_has ls' mi.2.2.1 (cn_lv en ((i, .ref x) :: lv.filter (fun q => (fun a c => !(a == i) && !(a + 1 == i && c == 2)) q.1 q.2.category))) := by
    have e3 : cn_lv en ((i, .ref x) :: lv.filter (fun q => (fun a c => !(a == i) && !(a + 1 == i && c == 2)) q.1 q.2.category)) = (i, cn_rv en (.ref x)) :: cn_lv en (lv.filter (fun q => (fun a c => !(a == i) && !(a + 1 == i && c == 2)) q.1 q.2.category)) := rfl
    rw [e3, ← e1]
    exact h'
  exact cn_lv_pick pk e2
theorem cn_astore {l : Launch} {en : cn_E} {mi : cn_M} {d kc ks : Nat} {S : cn_S} {I : cn_I} {P : cn_P} {Q : Option Value → cn_S → cn_I → cn_P → Prop} {pc pc' : Nat} {lv : List (Nat × Value)} {st : List Value} {lv' : List (Nat × Value)} {i : Nat} {x : Nat} (pk : List Nat) (hn : i < mi.2.2.1) (hlv : cn_st i (.ref x) lv pk = lv') (hd : decode mi.2.1 pc = .ok (.astore i, 2)) (hp : pc + 2 = pc') (K : cn_V l en mi d kc ks S I P Q pc' lv' st) : cn_V l en mi d kc ks S I P Q pc lv (.ref x :: st) := by
  subst hp; subst hlv
  intro p e R s m args below meth c Z H locs cells slots ls C hc hs hH hS hl hk
  refine lv_astore C.1 C.2.1 hd hl hn rfl (fun ls' h' => K p e R s m args below meth c Z H locs cells slots ls' C hc hs hH hS ?_ hk)
  have e1 := cn_lv_filter en lv (fun a c => !(a == i) && !(a + 1 == i && c == 2))
  have e2 : lv_has ls' mi.2.2.1 (cn_lv en ((i, .ref x) :: lv.filter (fun q => (fun a c => !(a == i) && !(a + 1 == i && c == 2)) q.1 q.2.category))) := by
    have e3 : cn_lv en ((i, .ref x) :: lv.filter (fun q => (fun a c => !(a == i) && !(a + 1 == i && c == 2)) q.1 q.2.category)) = (i, cn_rv en (.ref x)) :: cn_lv en (lv.filter (fun q => (fun a c => !(a == i) && !(a + 1 == i && c == 2)) q.1 q.2.category)) := rfl
    rw [e3, ← e1]
    exact h'
  exact cn_lv_pick pk e2
theorem cn_iinc {l : Launch} {en : cn_E} {mi : cn_M} {d kc ks : Nat} {S : cn_S} {I : cn_I} {P : cn_P} {Q : Option Value → cn_S → cn_I → cn_P → Prop} {pc pc' : Nat} {lv : List (Nat × Value)} {st : List Value} {lv' : List (Nat × Value)} {i k : Nat} {n : Int} {x v : Int32} (pk : List Nat) (hk0 : lv[k]? = some (i, .int x)) (hv : x + Int32.ofInt n = v) (hn : i < mi.2.2.1) (hlv : cn_st i (.int v) lv pk = lv') (hd : decode mi.2.1 pc = .ok (.iinc i n, 3)) (hp : pc + 3 = pc') (K : cn_V l en mi d kc ks S I P Q pc' lv' st) : cn_V l en mi d kc ks S I P Q pc lv st := by
  subst hp; subst hlv
  intro p e R s m args below meth c Z H locs cells slots ls C hc hs hH hS hl hk
  have hkk : (cn_lv en lv)[k]? = some (i, .int x) := by simp [cn_lv, List.getElem?_map, hk0, cn_rv]
  refine lv_iinc C.1 C.2.1 hd hl hkk hv hn rfl (fun ls' h' => K p e R s m args below meth c Z H locs cells slots ls' C hc hs hH hS ?_ hk)
  have e1 := cn_lv_filter en lv (fun a c => !(a == i) && !(a + 1 == i && c == 2))
  have e2 : lv_has ls' mi.2.2.1 (cn_lv en ((i, .int v) :: lv.filter (fun q => (fun a c => !(a == i) && !(a + 1 == i && c == 2)) q.1 q.2.category))) := by
    have e3 : cn_lv en ((i, .int v) :: lv.filter (fun q => (fun a c => !(a == i) && !(a + 1 == i && c == 2)) q.1 q.2.category)) = (i, cn_rv en (.int v)) :: cn_lv en (lv.filter (fun q => (fun a c => !(a == i) && !(a + 1 == i && c == 2)) q.1 q.2.category)) := rfl
    rw [e3, ← e1]
    exact h'
  exact cn_lv_pick pk e2
theorem cn_iadd {l : Launch} {en : cn_E} {mi : cn_M} {d kc ks : Nat} {S : cn_S} {I : cn_I} {P : cn_P} {Q : Option Value → cn_S → cn_I → cn_P → Prop} {pc pc' : Nat} {lv : List (Nat × Value)} {st : List Value} {x y : Int32} (hd : decode mi.2.1 pc = .ok (.iadd, 1)) (hp : pc + 1 = pc') (K : cn_V l en mi d kc ks S I P Q pc' lv (.int (x + y) :: st)) : cn_V l en mi d kc ks S I P Q pc lv (.int y :: .int x :: st) := by
  subst hp
  intro p e R s m args below meth c Z H locs cells slots ls C hc hs hH hS hl hk
  exact lv_iadd C.1 C.2.1 hd (K p e R s m args below meth c Z H locs cells slots ls C hc hs hH hS hl hk)
theorem cn_isub {l : Launch} {en : cn_E} {mi : cn_M} {d kc ks : Nat} {S : cn_S} {I : cn_I} {P : cn_P} {Q : Option Value → cn_S → cn_I → cn_P → Prop} {pc pc' : Nat} {lv : List (Nat × Value)} {st : List Value} {x y : Int32} (hd : decode mi.2.1 pc = .ok (.isub, 1)) (hp : pc + 1 = pc') (K : cn_V l en mi d kc ks S I P Q pc' lv (.int (x - y) :: st)) : cn_V l en mi d kc ks S I P Q pc lv (.int y :: .int x :: st) := by
  subst hp
  intro p e R s m args below meth c Z H locs cells slots ls C hc hs hH hS hl hk
  exact lv_isub C.1 C.2.1 hd (K p e R s m args below meth c Z H locs cells slots ls C hc hs hH hS hl hk)
theorem cn_imul {l : Launch} {en : cn_E} {mi : cn_M} {d kc ks : Nat} {S : cn_S} {I : cn_I} {P : cn_P} {Q : Option Value → cn_S → cn_I → cn_P → Prop} {pc pc' : Nat} {lv : List (Nat × Value)} {st : List Value} {x y : Int32} (hd : decode mi.2.1 pc = .ok (.imul, 1)) (hp : pc + 1 = pc') (K : cn_V l en mi d kc ks S I P Q pc' lv (.int (x * y) :: st)) : cn_V l en mi d kc ks S I P Q pc lv (.int y :: .int x :: st) := by
  subst hp
  intro p e R s m args below meth c Z H locs cells slots ls C hc hs hH hS hl hk
  exact lv_imul C.1 C.2.1 hd (K p e R s m args below meth c Z H locs cells slots ls C hc hs hH hS hl hk)
theorem cn_iand {l : Launch} {en : cn_E} {mi : cn_M} {d kc ks : Nat} {S : cn_S} {I : cn_I} {P : cn_P} {Q : Option Value → cn_S → cn_I → cn_P → Prop} {pc pc' : Nat} {lv : List (Nat × Value)} {st : List Value} {x y : Int32} (hd : decode mi.2.1 pc = .ok (.iand, 1)) (hp : pc + 1 = pc') (K : cn_V l en mi d kc ks S I P Q pc' lv (.int (x &&& y) :: st)) : cn_V l en mi d kc ks S I P Q pc lv (.int y :: .int x :: st) := by
  subst hp
  intro p e R s m args below meth c Z H locs cells slots ls C hc hs hH hS hl hk
  exact lv_iand C.1 C.2.1 hd (K p e R s m args below meth c Z H locs cells slots ls C hc hs hH hS hl hk)
theorem cn_ior {l : Launch} {en : cn_E} {mi : cn_M} {d kc ks : Nat} {S : cn_S} {I : cn_I} {P : cn_P} {Q : Option Value → cn_S → cn_I → cn_P → Prop} {pc pc' : Nat} {lv : List (Nat × Value)} {st : List Value} {x y : Int32} (hd : decode mi.2.1 pc = .ok (.ior, 1)) (hp : pc + 1 = pc') (K : cn_V l en mi d kc ks S I P Q pc' lv (.int (x ||| y) :: st)) : cn_V l en mi d kc ks S I P Q pc lv (.int y :: .int x :: st) := by
  subst hp
  intro p e R s m args below meth c Z H locs cells slots ls C hc hs hH hS hl hk
  exact lv_ior C.1 C.2.1 hd (K p e R s m args below meth c Z H locs cells slots ls C hc hs hH hS hl hk)
theorem cn_ishl {l : Launch} {en : cn_E} {mi : cn_M} {d kc ks : Nat} {S : cn_S} {I : cn_I} {P : cn_P} {Q : Option Value → cn_S → cn_I → cn_P → Prop} {pc pc' : Nat} {lv : List (Nat × Value)} {st : List Value} {x y : Int32} (hd : decode mi.2.1 pc = .ok (.ishl, 1)) (hp : pc + 1 = pc') (K : cn_V l en mi d kc ks S I P Q pc' lv (.int (x <<< (y &&& 31)) :: st)) : cn_V l en mi d kc ks S I P Q pc lv (.int y :: .int x :: st) := by
  subst hp
  intro p e R s m args below meth c Z H locs cells slots ls C hc hs hH hS hl hk
  exact lv_ishl C.1 C.2.1 hd (K p e R s m args below meth c Z H locs cells slots ls C hc hs hH hS hl hk)
theorem cn_ishr {l : Launch} {en : cn_E} {mi : cn_M} {d kc ks : Nat} {S : cn_S} {I : cn_I} {P : cn_P} {Q : Option Value → cn_S → cn_I → cn_P → Prop} {pc pc' : Nat} {lv : List (Nat × Value)} {st : List Value} {x y : Int32} (hd : decode mi.2.1 pc = .ok (.ishr, 1)) (hp : pc + 1 = pc') (K : cn_V l en mi d kc ks S I P Q pc' lv (.int (x >>> (y &&& 31)) :: st)) : cn_V l en mi d kc ks S I P Q pc lv (.int y :: .int x :: st) := by
  subst hp
  intro p e R s m args below meth c Z H locs cells slots ls C hc hs hH hS hl hk
  exact lv_ishr C.1 C.2.1 hd (K p e R s m args below meth c Z H locs cells slots ls C hc hs hH hS hl hk)
theorem cn_ladd {l : Launch} {en : cn_E} {mi : cn_M} {d kc ks : Nat} {S : cn_S} {I : cn_I} {P : cn_P} {Q : Option Value → cn_S → cn_I → cn_P → Prop} {pc pc' : Nat} {lv : List (Nat × Value)} {st : List Value} {x y : Int64} (hd : decode mi.2.1 pc = .ok (.ladd, 1)) (hp : pc + 1 = pc') (K : cn_V l en mi d kc ks S I P Q pc' lv (.long (x + y) :: st)) : cn_V l en mi d kc ks S I P Q pc lv (.long y :: .long x :: st) := by
  subst hp
  intro p e R s m args below meth c Z H locs cells slots ls C hc hs hH hS hl hk
  exact lv_ladd C.1 C.2.1 hd (K p e R s m args below meth c Z H locs cells slots ls C hc hs hH hS hl hk)
theorem cn_land {l : Launch} {en : cn_E} {mi : cn_M} {d kc ks : Nat} {S : cn_S} {I : cn_I} {P : cn_P} {Q : Option Value → cn_S → cn_I → cn_P → Prop} {pc pc' : Nat} {lv : List (Nat × Value)} {st : List Value} {x y : Int64} (hd : decode mi.2.1 pc = .ok (.land, 1)) (hp : pc + 1 = pc') (K : cn_V l en mi d kc ks S I P Q pc' lv (.long (x &&& y) :: st)) : cn_V l en mi d kc ks S I P Q pc lv (.long y :: .long x :: st) := by
  subst hp
  intro p e R s m args below meth c Z H locs cells slots ls C hc hs hH hS hl hk
  exact lv_land C.1 C.2.1 hd (K p e R s m args below meth c Z H locs cells slots ls C hc hs hH hS hl hk)
theorem cn_lor {l : Launch} {en : cn_E} {mi : cn_M} {d kc ks : Nat} {S : cn_S} {I : cn_I} {P : cn_P} {Q : Option Value → cn_S → cn_I → cn_P → Prop} {pc pc' : Nat} {lv : List (Nat × Value)} {st : List Value} {x y : Int64} (hd : decode mi.2.1 pc = .ok (.lor, 1)) (hp : pc + 1 = pc') (K : cn_V l en mi d kc ks S I P Q pc' lv (.long (x ||| y) :: st)) : cn_V l en mi d kc ks S I P Q pc lv (.long y :: .long x :: st) := by
  subst hp
  intro p e R s m args below meth c Z H locs cells slots ls C hc hs hH hS hl hk
  exact lv_lor C.1 C.2.1 hd (K p e R s m args below meth c Z H locs cells slots ls C hc hs hH hS hl hk)
theorem cn_lshl {l : Launch} {en : cn_E} {mi : cn_M} {d kc ks : Nat} {S : cn_S} {I : cn_I} {P : cn_P} {Q : Option Value → cn_S → cn_I → cn_P → Prop} {pc pc' : Nat} {lv : List (Nat × Value)} {st : List Value} {x : Int64} {y : Int32} (hd : decode mi.2.1 pc = .ok (.lshl, 1)) (hp : pc + 1 = pc') (K : cn_V l en mi d kc ks S I P Q pc' lv (.long (x <<< (y.toInt64 &&& 63)) :: st)) : cn_V l en mi d kc ks S I P Q pc lv (.int y :: .long x :: st) := by
  subst hp
  intro p e R s m args below meth c Z H locs cells slots ls C hc hs hH hS hl hk
  exact lv_lshl C.1 C.2.1 hd rfl (K p e R s m args below meth c Z H locs cells slots ls C hc hs hH hS hl hk)
theorem cn_lshr {l : Launch} {en : cn_E} {mi : cn_M} {d kc ks : Nat} {S : cn_S} {I : cn_I} {P : cn_P} {Q : Option Value → cn_S → cn_I → cn_P → Prop} {pc pc' : Nat} {lv : List (Nat × Value)} {st : List Value} {x : Int64} {y : Int32} (hd : decode mi.2.1 pc = .ok (.lshr, 1)) (hp : pc + 1 = pc') (K : cn_V l en mi d kc ks S I P Q pc' lv (.long (x >>> (y.toInt64 &&& 63)) :: st)) : cn_V l en mi d kc ks S I P Q pc lv (.int y :: .long x :: st) := by
  subst hp
  intro p e R s m args below meth c Z H locs cells slots ls C hc hs hH hS hl hk
  exact lv_lshr C.1 C.2.1 hd rfl (K p e R s m args below meth c Z H locs cells slots ls C hc hs hH hS hl hk)
theorem cn_i2l {l : Launch} {en : cn_E} {mi : cn_M} {d kc ks : Nat} {S : cn_S} {I : cn_I} {P : cn_P} {Q : Option Value → cn_S → cn_I → cn_P → Prop} {pc pc' : Nat} {lv : List (Nat × Value)} {st : List Value} {x : Int32} (hd : decode mi.2.1 pc = .ok (.i2l, 1)) (hp : pc + 1 = pc') (K : cn_V l en mi d kc ks S I P Q pc' lv (.long x.toInt64 :: st)) : cn_V l en mi d kc ks S I P Q pc lv (.int x :: st) := by
  subst hp
  intro p e R s m args below meth c Z H locs cells slots ls C hc hs hH hS hl hk
  exact lv_i2l C.1 C.2.1 hd rfl (K p e R s m args below meth c Z H locs cells slots ls C hc hs hH hS hl hk)
theorem cn_l2i {l : Launch} {en : cn_E} {mi : cn_M} {d kc ks : Nat} {S : cn_S} {I : cn_I} {P : cn_P} {Q : Option Value → cn_S → cn_I → cn_P → Prop} {pc pc' : Nat} {lv : List (Nat × Value)} {st : List Value} {x : Int64} (hd : decode mi.2.1 pc = .ok (.l2i, 1)) (hp : pc + 1 = pc') (K : cn_V l en mi d kc ks S I P Q pc' lv (.int x.toInt32 :: st)) : cn_V l en mi d kc ks S I P Q pc lv (.long x :: st) := by
  subst hp
  intro p e R s m args below meth c Z H locs cells slots ls C hc hs hH hS hl hk
  exact lv_l2i C.1 C.2.1 hd rfl (K p e R s m args below meth c Z H locs cells slots ls C hc hs hH hS hl hk)
theorem cn_i2b {l : Launch} {en : cn_E} {mi : cn_M} {d kc ks : Nat} {S : cn_S} {I : cn_I} {P : cn_P} {Q : Option Value → cn_S → cn_I → cn_P → Prop} {pc pc' : Nat} {lv : List (Nat × Value)} {st : List Value} {x : Int32} (hd : decode mi.2.1 pc = .ok (.i2b, 1)) (hp : pc + 1 = pc') (K : cn_V l en mi d kc ks S I P Q pc' lv (.int x.toInt8.toInt32 :: st)) : cn_V l en mi d kc ks S I P Q pc lv (.int x :: st) := by
  subst hp
  intro p e R s m args below meth c Z H locs cells slots ls C hc hs hH hS hl hk
  exact lv_i2b C.1 C.2.1 hd rfl (K p e R s m args below meth c Z H locs cells slots ls C hc hs hH hS hl hk)
theorem cn_lcmp {l : Launch} {en : cn_E} {mi : cn_M} {d kc ks : Nat} {S : cn_S} {I : cn_I} {P : cn_P} {Q : Option Value → cn_S → cn_I → cn_P → Prop} {pc pc' : Nat} {lv : List (Nat × Value)} {st : List Value} {x y : Int64} (hd : decode mi.2.1 pc = .ok (.lcmp, 1)) (hp : pc + 1 = pc') (K : cn_V l en mi d kc ks S I P Q pc' lv (.int (lg_cmp x y) :: st)) : cn_V l en mi d kc ks S I P Q pc lv (.long y :: .long x :: st) := by
  subst hp
  intro p e R s m args below meth c Z H locs cells slots ls C hc hs hH hS hl hk
  exact W.lcmp C.1 C.2.1 hd (K p e R s m args below meth c Z H locs cells slots ls C hc hs hH hS hl hk)
theorem cn_dup {l : Launch} {en : cn_E} {mi : cn_M} {d kc ks : Nat} {S : cn_S} {I : cn_I} {P : cn_P} {Q : Option Value → cn_S → cn_I → cn_P → Prop} {pc pc' : Nat} {lv : List (Nat × Value)} {st : List Value} {v : Value} (hv : v.category = 1) (hd : decode mi.2.1 pc = .ok (.dup, 1)) (hp : pc + 1 = pc') (K : cn_V l en mi d kc ks S I P Q pc' lv (v :: v :: st)) : cn_V l en mi d kc ks S I P Q pc lv (v :: st) := by
  subst hp
  intro p e R s m args below meth c Z H locs cells slots ls C hc hs hH hS hl hk
  exact lv_dup C.1 C.2.1 hd (by rw [cn_rv_cat]; exact hv) (K p e R s m args below meth c Z H locs cells slots ls C hc hs hH hS hl hk)
theorem cn_pop {l : Launch} {en : cn_E} {mi : cn_M} {d kc ks : Nat} {S : cn_S} {I : cn_I} {P : cn_P} {Q : Option Value → cn_S → cn_I → cn_P → Prop} {pc pc' : Nat} {lv : List (Nat × Value)} {st : List Value} {v : Value} (hv : v.category = 1) (hd : decode mi.2.1 pc = .ok (.pop, 1)) (hp : pc + 1 = pc') (K : cn_V l en mi d kc ks S I P Q pc' lv st) : cn_V l en mi d kc ks S I P Q pc lv (v :: st) := by
  subst hp
  intro p e R s m args below meth c Z H locs cells slots ls C hc hs hH hS hl hk
  exact lv_pop C.1 C.2.1 hd (by rw [cn_rv_cat]; exact hv) (K p e R s m args below meth c Z H locs cells slots ls C hc hs hH hS hl hk)
theorem cn_dup2 {l : Launch} {en : cn_E} {mi : cn_M} {d kc ks : Nat} {S : cn_S} {I : cn_I} {P : cn_P} {Q : Option Value → cn_S → cn_I → cn_P → Prop} {pc pc' : Nat} {lv : List (Nat × Value)} {st : List Value} {v w : Value} (hv : v.category = 1) (hw : w.category = 1) (hd : decode mi.2.1 pc = .ok (.dup2, 1)) (hp : pc + 1 = pc') (K : cn_V l en mi d kc ks S I P Q pc' lv (v :: w :: v :: w :: st)) : cn_V l en mi d kc ks S I P Q pc lv (v :: w :: st) := by
  subst hp
  intro p e R s m args below meth c Z H locs cells slots ls C hc hs hH hS hl hk
  exact lv_dup2_11 C.1 C.2.1 hd (by rw [cn_rv_cat]; exact hv) (by rw [cn_rv_cat]; exact hw) (K p e R s m args below meth c Z H locs cells slots ls C hc hs hH hS hl hk)
theorem cn_if_eq {l : Launch} {en : cn_E} {mi : cn_M} {d kc ks : Nat} {S : cn_S} {I : cn_I} {P : cn_P} {Q : Option Value → cn_S → cn_I → cn_P → Prop} {pc pc' : Nat} {lv : List (Nat × Value)} {st : List Value} {x : Int32} {off : Int} {tgt : Nat} (hd : decode mi.2.1 pc = .ok (.ifCond .eq off, 3)) (ht : (pc : Int) + off = (tgt : Int)) (hp : pc + 3 = pc') (kt : x = 0 → cn_V l en mi d kc ks S I P Q tgt lv st) (kf : ¬ x = 0 → cn_V l en mi d kc ks S I P Q pc' lv st) : cn_V l en mi d kc ks S I P Q pc lv (.int x :: st) := by
  subst hp
  intro p e R s m args below meth c Z H locs cells slots ls C hc hs hH hS hl hk
  exact lv_if_eq C.1 C.2.1 hd ht (fun h => kt h p e R s m args below meth c Z H locs cells slots ls C hc hs hH hS hl hk) (fun h => kf h p e R s m args below meth c Z H locs cells slots ls C hc hs hH hS hl hk)
theorem cn_icmp_eq {l : Launch} {en : cn_E} {mi : cn_M} {d kc ks : Nat} {S : cn_S} {I : cn_I} {P : cn_P} {Q : Option Value → cn_S → cn_I → cn_P → Prop} {pc pc' : Nat} {lv : List (Nat × Value)} {st : List Value} {x y : Int32} {off : Int} {tgt : Nat} (hd : decode mi.2.1 pc = .ok (.if_icmp .eq off, 3)) (ht : (pc : Int) + off = (tgt : Int)) (hp : pc + 3 = pc') (kt : x = y → cn_V l en mi d kc ks S I P Q tgt lv st) (kf : ¬ x = y → cn_V l en mi d kc ks S I P Q pc' lv st) : cn_V l en mi d kc ks S I P Q pc lv (.int y :: .int x :: st) := by
  subst hp
  intro p e R s m args below meth c Z H locs cells slots ls C hc hs hH hS hl hk
  exact lv_icmp_eq C.1 C.2.1 hd ht (fun h => kt h p e R s m args below meth c Z H locs cells slots ls C hc hs hH hS hl hk) (fun h => kf h p e R s m args below meth c Z H locs cells slots ls C hc hs hH hS hl hk)
theorem cn_if_ne {l : Launch} {en : cn_E} {mi : cn_M} {d kc ks : Nat} {S : cn_S} {I : cn_I} {P : cn_P} {Q : Option Value → cn_S → cn_I → cn_P → Prop} {pc pc' : Nat} {lv : List (Nat × Value)} {st : List Value} {x : Int32} {off : Int} {tgt : Nat} (hd : decode mi.2.1 pc = .ok (.ifCond .ne off, 3)) (ht : (pc : Int) + off = (tgt : Int)) (hp : pc + 3 = pc') (kt : ¬ x = 0 → cn_V l en mi d kc ks S I P Q tgt lv st) (kf : x = 0 → cn_V l en mi d kc ks S I P Q pc' lv st) : cn_V l en mi d kc ks S I P Q pc lv (.int x :: st) := by
  subst hp
  intro p e R s m args below meth c Z H locs cells slots ls C hc hs hH hS hl hk
  exact lv_if_ne C.1 C.2.1 hd ht (fun h => kt h p e R s m args below meth c Z H locs cells slots ls C hc hs hH hS hl hk) (fun h => kf h p e R s m args below meth c Z H locs cells slots ls C hc hs hH hS hl hk)
theorem cn_icmp_ne {l : Launch} {en : cn_E} {mi : cn_M} {d kc ks : Nat} {S : cn_S} {I : cn_I} {P : cn_P} {Q : Option Value → cn_S → cn_I → cn_P → Prop} {pc pc' : Nat} {lv : List (Nat × Value)} {st : List Value} {x y : Int32} {off : Int} {tgt : Nat} (hd : decode mi.2.1 pc = .ok (.if_icmp .ne off, 3)) (ht : (pc : Int) + off = (tgt : Int)) (hp : pc + 3 = pc') (kt : ¬ x = y → cn_V l en mi d kc ks S I P Q tgt lv st) (kf : x = y → cn_V l en mi d kc ks S I P Q pc' lv st) : cn_V l en mi d kc ks S I P Q pc lv (.int y :: .int x :: st) := by
  subst hp
  intro p e R s m args below meth c Z H locs cells slots ls C hc hs hH hS hl hk
  exact lv_icmp_ne C.1 C.2.1 hd ht (fun h => kt h p e R s m args below meth c Z H locs cells slots ls C hc hs hH hS hl hk) (fun h => kf h p e R s m args below meth c Z H locs cells slots ls C hc hs hH hS hl hk)
theorem cn_if_lt {l : Launch} {en : cn_E} {mi : cn_M} {d kc ks : Nat} {S : cn_S} {I : cn_I} {P : cn_P} {Q : Option Value → cn_S → cn_I → cn_P → Prop} {pc pc' : Nat} {lv : List (Nat × Value)} {st : List Value} {x : Int32} {off : Int} {tgt : Nat} (hd : decode mi.2.1 pc = .ok (.ifCond .lt off, 3)) (ht : (pc : Int) + off = (tgt : Int)) (hp : pc + 3 = pc') (kt : x < 0 → cn_V l en mi d kc ks S I P Q tgt lv st) (kf : ¬ x < 0 → cn_V l en mi d kc ks S I P Q pc' lv st) : cn_V l en mi d kc ks S I P Q pc lv (.int x :: st) := by
  subst hp
  intro p e R s m args below meth c Z H locs cells slots ls C hc hs hH hS hl hk
  exact lv_if_lt C.1 C.2.1 hd ht (fun h => kt h p e R s m args below meth c Z H locs cells slots ls C hc hs hH hS hl hk) (fun h => kf h p e R s m args below meth c Z H locs cells slots ls C hc hs hH hS hl hk)
theorem cn_icmp_lt {l : Launch} {en : cn_E} {mi : cn_M} {d kc ks : Nat} {S : cn_S} {I : cn_I} {P : cn_P} {Q : Option Value → cn_S → cn_I → cn_P → Prop} {pc pc' : Nat} {lv : List (Nat × Value)} {st : List Value} {x y : Int32} {off : Int} {tgt : Nat} (hd : decode mi.2.1 pc = .ok (.if_icmp .lt off, 3)) (ht : (pc : Int) + off = (tgt : Int)) (hp : pc + 3 = pc') (kt : x < y → cn_V l en mi d kc ks S I P Q tgt lv st) (kf : ¬ x < y → cn_V l en mi d kc ks S I P Q pc' lv st) : cn_V l en mi d kc ks S I P Q pc lv (.int y :: .int x :: st) := by
  subst hp
  intro p e R s m args below meth c Z H locs cells slots ls C hc hs hH hS hl hk
  exact lv_icmp_lt C.1 C.2.1 hd ht (fun h => kt h p e R s m args below meth c Z H locs cells slots ls C hc hs hH hS hl hk) (fun h => kf h p e R s m args below meth c Z H locs cells slots ls C hc hs hH hS hl hk)
theorem cn_if_ge {l : Launch} {en : cn_E} {mi : cn_M} {d kc ks : Nat} {S : cn_S} {I : cn_I} {P : cn_P} {Q : Option Value → cn_S → cn_I → cn_P → Prop} {pc pc' : Nat} {lv : List (Nat × Value)} {st : List Value} {x : Int32} {off : Int} {tgt : Nat} (hd : decode mi.2.1 pc = .ok (.ifCond .ge off, 3)) (ht : (pc : Int) + off = (tgt : Int)) (hp : pc + 3 = pc') (kt : 0 ≤ x → cn_V l en mi d kc ks S I P Q tgt lv st) (kf : ¬ 0 ≤ x → cn_V l en mi d kc ks S I P Q pc' lv st) : cn_V l en mi d kc ks S I P Q pc lv (.int x :: st) := by
  subst hp
  intro p e R s m args below meth c Z H locs cells slots ls C hc hs hH hS hl hk
  exact lv_if_ge C.1 C.2.1 hd ht (fun h => kt h p e R s m args below meth c Z H locs cells slots ls C hc hs hH hS hl hk) (fun h => kf h p e R s m args below meth c Z H locs cells slots ls C hc hs hH hS hl hk)
theorem cn_icmp_ge {l : Launch} {en : cn_E} {mi : cn_M} {d kc ks : Nat} {S : cn_S} {I : cn_I} {P : cn_P} {Q : Option Value → cn_S → cn_I → cn_P → Prop} {pc pc' : Nat} {lv : List (Nat × Value)} {st : List Value} {x y : Int32} {off : Int} {tgt : Nat} (hd : decode mi.2.1 pc = .ok (.if_icmp .ge off, 3)) (ht : (pc : Int) + off = (tgt : Int)) (hp : pc + 3 = pc') (kt : y ≤ x → cn_V l en mi d kc ks S I P Q tgt lv st) (kf : ¬ y ≤ x → cn_V l en mi d kc ks S I P Q pc' lv st) : cn_V l en mi d kc ks S I P Q pc lv (.int y :: .int x :: st) := by
  subst hp
  intro p e R s m args below meth c Z H locs cells slots ls C hc hs hH hS hl hk
  exact lv_icmp_ge C.1 C.2.1 hd ht (fun h => kt h p e R s m args below meth c Z H locs cells slots ls C hc hs hH hS hl hk) (fun h => kf h p e R s m args below meth c Z H locs cells slots ls C hc hs hH hS hl hk)
theorem cn_if_gt {l : Launch} {en : cn_E} {mi : cn_M} {d kc ks : Nat} {S : cn_S} {I : cn_I} {P : cn_P} {Q : Option Value → cn_S → cn_I → cn_P → Prop} {pc pc' : Nat} {lv : List (Nat × Value)} {st : List Value} {x : Int32} {off : Int} {tgt : Nat} (hd : decode mi.2.1 pc = .ok (.ifCond .gt off, 3)) (ht : (pc : Int) + off = (tgt : Int)) (hp : pc + 3 = pc') (kt : 0 < x → cn_V l en mi d kc ks S I P Q tgt lv st) (kf : ¬ 0 < x → cn_V l en mi d kc ks S I P Q pc' lv st) : cn_V l en mi d kc ks S I P Q pc lv (.int x :: st) := by
  subst hp
  intro p e R s m args below meth c Z H locs cells slots ls C hc hs hH hS hl hk
  exact lv_if_gt C.1 C.2.1 hd ht (fun h => kt h p e R s m args below meth c Z H locs cells slots ls C hc hs hH hS hl hk) (fun h => kf h p e R s m args below meth c Z H locs cells slots ls C hc hs hH hS hl hk)
theorem cn_icmp_gt {l : Launch} {en : cn_E} {mi : cn_M} {d kc ks : Nat} {S : cn_S} {I : cn_I} {P : cn_P} {Q : Option Value → cn_S → cn_I → cn_P → Prop} {pc pc' : Nat} {lv : List (Nat × Value)} {st : List Value} {x y : Int32} {off : Int} {tgt : Nat} (hd : decode mi.2.1 pc = .ok (.if_icmp .gt off, 3)) (ht : (pc : Int) + off = (tgt : Int)) (hp : pc + 3 = pc') (kt : y < x → cn_V l en mi d kc ks S I P Q tgt lv st) (kf : ¬ y < x → cn_V l en mi d kc ks S I P Q pc' lv st) : cn_V l en mi d kc ks S I P Q pc lv (.int y :: .int x :: st) := by
  subst hp
  intro p e R s m args below meth c Z H locs cells slots ls C hc hs hH hS hl hk
  exact lv_icmp_gt C.1 C.2.1 hd ht (fun h => kt h p e R s m args below meth c Z H locs cells slots ls C hc hs hH hS hl hk) (fun h => kf h p e R s m args below meth c Z H locs cells slots ls C hc hs hH hS hl hk)
theorem cn_if_le {l : Launch} {en : cn_E} {mi : cn_M} {d kc ks : Nat} {S : cn_S} {I : cn_I} {P : cn_P} {Q : Option Value → cn_S → cn_I → cn_P → Prop} {pc pc' : Nat} {lv : List (Nat × Value)} {st : List Value} {x : Int32} {off : Int} {tgt : Nat} (hd : decode mi.2.1 pc = .ok (.ifCond .le off, 3)) (ht : (pc : Int) + off = (tgt : Int)) (hp : pc + 3 = pc') (kt : x ≤ 0 → cn_V l en mi d kc ks S I P Q tgt lv st) (kf : ¬ x ≤ 0 → cn_V l en mi d kc ks S I P Q pc' lv st) : cn_V l en mi d kc ks S I P Q pc lv (.int x :: st) := by
  subst hp
  intro p e R s m args below meth c Z H locs cells slots ls C hc hs hH hS hl hk
  exact lv_if_le C.1 C.2.1 hd ht (fun h => kt h p e R s m args below meth c Z H locs cells slots ls C hc hs hH hS hl hk) (fun h => kf h p e R s m args below meth c Z H locs cells slots ls C hc hs hH hS hl hk)
theorem cn_icmp_le {l : Launch} {en : cn_E} {mi : cn_M} {d kc ks : Nat} {S : cn_S} {I : cn_I} {P : cn_P} {Q : Option Value → cn_S → cn_I → cn_P → Prop} {pc pc' : Nat} {lv : List (Nat × Value)} {st : List Value} {x y : Int32} {off : Int} {tgt : Nat} (hd : decode mi.2.1 pc = .ok (.if_icmp .le off, 3)) (ht : (pc : Int) + off = (tgt : Int)) (hp : pc + 3 = pc') (kt : x ≤ y → cn_V l en mi d kc ks S I P Q tgt lv st) (kf : ¬ x ≤ y → cn_V l en mi d kc ks S I P Q pc' lv st) : cn_V l en mi d kc ks S I P Q pc lv (.int y :: .int x :: st) := by
  subst hp
  intro p e R s m args below meth c Z H locs cells slots ls C hc hs hH hS hl hk
  exact lv_icmp_le C.1 C.2.1 hd ht (fun h => kt h p e R s m args below meth c Z H locs cells slots ls C hc hs hH hS hl hk) (fun h => kf h p e R s m args below meth c Z H locs cells slots ls C hc hs hH hS hl hk)
theorem cn_goto {l : Launch} {en : cn_E} {mi : cn_M} {d kc ks : Nat} {S : cn_S} {I : cn_I} {P : cn_P} {Q : Option Value → cn_S → cn_I → cn_P → Prop} {pc : Nat} {lv : List (Nat × Value)} {st : List Value} {off : Int} {tgt : Nat} (hd : decode mi.2.1 pc = .ok (.goto off, 3)) (ht : (pc : Int) + off = (tgt : Int)) (K : cn_V l en mi d kc ks S I P Q tgt lv st) : cn_V l en mi d kc ks S I P Q pc lv st := by
  intro p e R s m args below meth c Z H locs cells slots ls C hc hs hH hS hl hk
  exact lv_goto C.1 C.2.1 hd ht (K p e R s m args below meth c Z H locs cells slots ls C hc hs hH hS hl hk)
theorem cn_tableOut {l : Launch} {en : cn_E} {mi : cn_M} {d kc ks : Nat} {S : cn_S} {I : cn_I} {P : cn_P} {Q : Option Value → cn_S → cn_I → cn_P → Prop} {pc : Nat} {lv : List (Nat × Value)} {st : List Value} {dflt lo hi : Int} {offs : Array Int} {len : Nat} {x : Int32} {tgt : Nat} (hd : decode mi.2.1 pc = .ok (.tableswitch dflt lo hi offs, len)) (h : x.toInt < lo ∨ hi < x.toInt) (ht : (pc : Int) + dflt = (tgt : Int)) (K : cn_V l en mi d kc ks S I P Q tgt lv st) : cn_V l en mi d kc ks S I P Q pc lv (.int x :: st) := by
  intro p e R s m args below meth c Z H locs cells slots ls C hc hs hH hS hl hk
  exact lv_tableOut C.1 C.2.1 hd h ht (K p e R s m args below meth c Z H locs cells slots ls C hc hs hH hS hl hk)
theorem cn_tableIn {l : Launch} {en : cn_E} {mi : cn_M} {d kc ks : Nat} {S : cn_S} {I : cn_I} {P : cn_P} {Q : Option Value → cn_S → cn_I → cn_P → Prop} {pc : Nat} {lv : List (Nat × Value)} {st : List Value} {dflt lo hi : Int} {offs : Array Int} {len : Nat} {x : Int32} {off : Int} {tgt : Nat} (hd : decode mi.2.1 pc = .ok (.tableswitch dflt lo hi offs, len)) (h1 : ¬ x.toInt < lo) (h2 : ¬ hi < x.toInt) (ho : offs[(x.toInt - lo).toNat]? = some off) (ht : (pc : Int) + off = (tgt : Int)) (K : cn_V l en mi d kc ks S I P Q tgt lv st) : cn_V l en mi d kc ks S I P Q pc lv (.int x :: st) := by
  intro p e R s m args below meth c Z H locs cells slots ls C hc hs hH hS hl hk
  exact lv_tableIn C.1 C.2.1 hd h1 h2 ho ht (K p e R s m args below meth c Z H locs cells slots ls C hc hs hH hS hl hk)
theorem cn_lookup {l : Launch} {en : cn_E} {mi : cn_M} {d kc ks : Nat} {S : cn_S} {I : cn_I} {P : cn_P} {Q : Option Value → cn_S → cn_I → cn_P → Prop} {pc : Nat} {lv : List (Nat × Value)} {st : List Value} {dflt : Int} {ps : Array (Int × Int)} {len : Nat} {x : Int32} {off : Int} {tgt : Nat} (hd : decode mi.2.1 pc = .ok (.lookupswitch dflt ps, len)) (hps : (ps.toList.zip (ps.toList.drop 1)).all (fun (a, next) => a.1 < next.1) = true) (ho : Op.lookupswitch.offset ps.toList dflt x.toInt = off) (ht : (pc : Int) + off = (tgt : Int)) (K : cn_V l en mi d kc ks S I P Q tgt lv st) : cn_V l en mi d kc ks S I P Q pc lv (.int x :: st) := by
  intro p e R s m args below meth c Z H locs cells slots ls C hc hs hH hS hl hk
  exact lv_lookup C.1 C.2.1 hd hps ho ht (K p e R s m args below meth c Z H locs cells slots ls C hc hs hH hS hl hk)
end
section
theorem cn_rv_ref {en : cn_E} {S : cn_S} {I : cn_I} {P : cn_P} {H : Heap} {a : Nat} (hH : cn_H en S I P H) (ha : a < S.1) : cn_rv en (.ref a) = .ref (cn_B en + a) := by
  have h : ¬ a = 1000000 := by have := hH.2.2.2; omega
  simp [cn_rv, cn_ad, h]
theorem cn_ad_lt {en : cn_E} {a : Nat} (ha : a < 1000000) : cn_ad en a = cn_B en + a := by
  have h : ¬ a = 1000000 := by omega
  simp [cn_ad, h]
theorem cn_H.set {en : cn_E} {S : cn_S} {I I' : cn_I} {P P' : cn_P} {H H1 : Heap} {a : Nat} (hH : cn_H en S I P H) (ha : a < S.1) (he : va_at (cn_D en) cn_cl (cn_B en + a, cn_cell en S I' P' a) H1) (z : H1.size = H.size) (oq : ∀ q : Nat, q ≠ cn_B en + a → H1[q]? = H[q]?) (hI : ∀ k, k ≠ a → I' k = I k) (hP : ∀ k, k ≠ a → P' k = P k) (hb : cn_bok S I') : cn_H en S I' P' H1 := by
  refine ⟨?_, z.trans hH.2.1, hb, hH.2.2.2⟩
  rw [← cn_ws_set ha hI hP]
  exact va_P.set hH.1 (cn_ws_D en S I P) (cn_ws_at ha) he oq
theorem cn_bok_ob {S : cn_S} {I : cn_I} {a ci k : Nat} {v : Int32} (h : cn_bok S I) (ho : cn_ob S a ci) : cn_bok S (cn_wi I a k v) := by
  intro b n hb j
  have hne : b ≠ a := fun e => by rw [e, ho.2] at hb; cases hb
  rw [cn_wi_ne hne]
  exact h b n hb j
theorem cn_fin_of {ci k : Nat} {C : String} {T : u_T} {N : Nat} {b : Bool} (h : cn_cok ci C T N) (hf : (cn_cl[ci]?).map (fun q => (q.2.1 k).2.2.2) = some b) : (T k).2.2.2 = b := by
  rw [h.1] at hf
  exact Option.some.inj hf
theorem cn_getI {l : Launch} {en : cn_E} {mi : cn_M} {d kc ks : Nat} {S : cn_S} {I : cn_I} {P : cn_P} {Q : Option Value → cn_S → cn_I → cn_P → Prop} {pc pc' : Nat} {lv : List (Nat × Value)} {st : List Value} {a ci k idx : Nat} (hf : cn_fl mi.1.cls idx ci k) (ho : cn_ob S a ci) (hr : cn_isr (cn_ft ci k) = false) (hd : decode mi.2.1 pc = .ok (.getfield idx, 3)) (hp : pc + 3 = pc') (K : cn_V l en mi d kc ks S I P Q pc' lv (.int (I a k) :: st)) : cn_V l en mi d kc ks S I P Q pc lv (.ref a :: st) := by
  subst hp
  intro p e R s m args below meth c Z H locs cells slots ls C hc hs hH hS hl hk
  obtain ⟨hx, hb, hml, hr0, hown, hts, hlocks, hname, hK, hX, hbB, hBs, hdF, hdL⟩ := id C
  obtain ⟨C0, T, N, hok, hkN, hlink⟩ := hf
  have hv : (cn_fs en ci (I a) (P a))[k]? = some (cn_rv en (.int (I a k))) := by
    rw [cn_fs_at (by rw [hok.2.2.2.2.1]; exact hkN)]
    simp [cn_fv, hr, cn_rv]
  have hw : (cn_ws en S I P)[a]? = some (cn_B en + a, .inr (ci, cn_fs en ci (I a) (P a))) := by rw [cn_ws_at ho.1, cn_ob_cell ho]
  have hT : (T k).1 = C0 := hok.2.2.2.2.2 k hkN
  show W p l e R s m args below meth c H locs cells slots Z (F0 m pc ls (cn_rv en (.ref a) :: st.map (cn_rv en)))
  rw [cn_rv_ref hH ho.1]
  rcases hlink with h | ⟨host, h⟩
  · exact va_get hx hb hts hok.2.1 hown hK.1 hH.1 a hw hok.1 k hkN (hts _ h) (fun x hx => by rw [hT] at hx; exact hx) hv hd (K p e R s m args below meth c Z H locs cells slots ls C hc hs hH hS hl hk)
  · exact va_getN hx hb hts hok.2.1 hown hK.1 hH.1 a hw hok.1 k hkN (va_Nw.use rfl (hK.2.1 _ h)) (fun x hx => by rw [hT] at hx; exact hx) hv hd (K p e R s m args below meth c Z H locs cells slots ls C hc hs hH hS hl hk)
theorem cn_getP {l : Launch} {en : cn_E} {mi : cn_M} {d kc ks : Nat} {S : cn_S} {I : cn_I} {P : cn_P} {Q : Option Value → cn_S → cn_I → cn_P → Prop} {pc pc' : Nat} {lv : List (Nat × Value)} {st : List Value} {a ci k idx : Nat} {b : Nat} (hP0 : P a k = some b) (hf : cn_fl mi.1.cls idx ci k) (ho : cn_ob S a ci) (hr : cn_isr (cn_ft ci k) = true) (hd : decode mi.2.1 pc = .ok (.getfield idx, 3)) (hp : pc + 3 = pc') (K : cn_V l en mi d kc ks S I P Q pc' lv (.ref b :: st)) : cn_V l en mi d kc ks S I P Q pc lv (.ref a :: st) := by
  subst hp
  intro p e R s m args below meth c Z H locs cells slots ls C hc hs hH hS hl hk
  obtain ⟨hx, hb, hml, hr0, hown, hts, hlocks, hname, hK, hX, hbB, hBs, hdF, hdL⟩ := id C
  obtain ⟨C0, T, N, hok, hkN, hlink⟩ := hf
  have hv : (cn_fs en ci (I a) (P a))[k]? = some (cn_rv en (.ref b)) := by
    rw [cn_fs_at (by rw [hok.2.2.2.2.1]; exact hkN)]
    simp [cn_fv, hr, hP0, va_rf, cn_rv]
  have hw : (cn_ws en S I P)[a]? = some (cn_B en + a, .inr (ci, cn_fs en ci (I a) (P a))) := by rw [cn_ws_at ho.1, cn_ob_cell ho]
  have hT : (T k).1 = C0 := hok.2.2.2.2.2 k hkN
  show W p l e R s m args below meth c H locs cells slots Z (F0 m pc ls (cn_rv en (.ref a) :: st.map (cn_rv en)))
  rw [cn_rv_ref hH ho.1]
  rcases hlink with h | ⟨host, h⟩
  · exact va_get hx hb hts hok.2.1 hown hK.1 hH.1 a hw hok.1 k hkN (hts _ h) (fun x hx => by rw [hT] at hx; exact hx) hv hd (K p e R s m args below meth c Z H locs cells slots ls C hc hs hH hS hl hk)
  · exact va_getN hx hb hts hok.2.1 hown hK.1 hH.1 a hw hok.1 k hkN (va_Nw.use rfl (hK.2.1 _ h)) (fun x hx => by rw [hT] at hx; exact hx) hv hd (K p e R s m args below meth c Z H locs cells slots ls C hc hs hH hS hl hk)
theorem cn_putI {l : Launch} {en : cn_E} {mi : cn_M} {d kc ks : Nat} {S : cn_S} {I : cn_I} {P : cn_P} {Q : Option Value → cn_S → cn_I → cn_P → Prop} {pc pc' : Nat} {lv : List (Nat × Value)} {st : List Value} {a ci k idx : Nat} {v : Int32} (hf : cn_fl mi.1.cls idx ci k) (ho : cn_ob S a ci) (hr : cn_isr (cn_ft ci k) = false) (hfin : (cn_cl[ci]?).map (fun q => (q.2.1 k).2.2.2) = some false) (hn : narrow (cn_ft ci k) (.int v) = .int v) (hfit : fits (cn_ft ci k) (.int v) = true) (hd : decode mi.2.1 pc = .ok (.putfield idx, 3)) (hp : pc + 3 = pc') (K : cn_V l en mi d kc ks S (cn_wi I a k v) P Q pc' lv st) : cn_V l en mi d kc ks S I P Q pc lv (.int v :: .ref a :: st) := by
  subst hp
  intro p e R s m args below meth c Z H locs cells slots ls C hc hs hH hS hl hk
  obtain ⟨hx, hb, hml, hr0, hown, hts, hlocks, hname, hK, hX, hbB, hBs, hdF, hdL⟩ := id C
  obtain ⟨C0, T, N, hok, hkN, hlink⟩ := hf
  have hNk : k < cn_NF ci := by rw [hok.2.2.2.2.1]; exact hkN
  have hw : (cn_ws en S I P)[a]? = some (cn_B en + a, .inr (ci, cn_fs en ci (I a) (P a))) := by rw [cn_ws_at ho.1, cn_ob_cell ho]
  have hT : (T k).1 = C0 := hok.2.2.2.2.2 k hkN
  have hF := cn_fin_of hok hfin
  show W p l e R s m args below meth c H locs cells slots Z (F0 m pc ls (.int v :: cn_rv en (.ref a) :: st.map (cn_rv en)))
  rw [cn_rv_ref hH ho.1]
  have hap := va_apart (own := mi.1.cls) hts hok.2.1 (cn_ft ci) hok.2.2.1 hok.2.2.2.1 hK.1 hok.1
  obtain ⟨r, h1, cell, q1, q2, q3, q4⟩ := hH.1 a _ hw
  have hr : r = (C0, T, N) := Option.some.inj (h1.symm.trans hok.1)
  subst hr
  obtain ⟨hSl, hfc, kC, hkC, hkind⟩ := hK.1.1 ci _ hok.1
  obtain ⟨cf, kf, fi, f, hi, hsl⟩ := hSl k hkN
  have hsame : s.fieldFound? C0 (T k).2.1 (T k).2.2.1 = some (cf, kf, fi, f) := by rw [hT] at hi; exact hi
  have hlay := hts _ (hok.2.1 _ (u_in_lay hkN))
  unfold u_lay at hlay
  have hst := (u_facts hfc hkC (u_lays hts hok.2.1 hkN) hi).1
  have fin : ∀ H1 : Heap, H1[cn_B en + a]? = some (cell.setSlot (cn_D en |>.2 ci k) (.int v)) → H1.size = H.size → (∀ q, q ≠ cn_B en + a → H1[q]? = H[q]?) → cn_H en S (cn_wi I a k v) P H1 := by
    intro H1 e1 e2 e3
    refine cn_H.set hH ho.1 ?_ e2 e3 (fun b hb => cn_wi_ne hb) (fun _ _ => rfl) (cn_bok_ob hH.2.2.1 ho)
    rw [cn_ob_cell ho, cn_wi_row, ← cn_fs_seti hNk hr]
    exact ⟨_, hok.1, t_OB.to (V := updV (vp_V (cn_fs en ci (I a) (P a))) k (.int v)) ⟨_, e1, q2, q3, t_set q4 hap hkN (.int v)⟩ (fun j _ => vp_updV_set (by rw [cn_fs_len]; exact hNk) (.int v) j)⟩
  rw [if_neg (by rw [hF]; decide)] at hlay
  have h6 := u_store hfc hkC hkind hlay hi (hok.2.2.1 k hkN) hn hfit
  rcases hlink with h | ⟨host, h⟩
  · refine W.putK hx hb (f := f) ⟨hown, hts _ h, ⟨_, _, _, hsame⟩, hst⟩ (by rw [q2]; exact h6) q1 q3 (by rw [hsl]; exact k2_hasslot (q4 k hkN)) rfl rfl hd fun H1 e1 e2 e3 => ?_
    rw [hsl] at e1 ⊢
    exact K p e R s m args below meth c Z H1 _ cells slots ls C hc hs (fin H1 e1 e2 e3) (hS.put e2 e3 (Nat.le_add_right _ _)) hl hk
  · refine va_WputK hx hb (f := f) hown (va_Nw.use rfl (hK.2.1 _ h)) hsame hst (by rw [q2]; exact h6) q1 q3 (by rw [hsl]; exact k2_hasslot (q4 k hkN)) rfl rfl hd fun H1 e1 e2 e3 => ?_
    rw [hsl] at e1 ⊢
    exact K p e R s m args below meth c Z H1 _ cells slots ls C hc hs (fin H1 e1 e2 e3) (hS.put e2 e3 (Nat.le_add_right _ _)) hl hk
theorem cn_putP {l : Launch} {en : cn_E} {mi : cn_M} {d kc ks : Nat} {S : cn_S} {I : cn_I} {P : cn_P} {Q : Option Value → cn_S → cn_I → cn_P → Prop} {pc pc' : Nat} {lv : List (Nat × Value)} {st : List Value} {a b ci k idx : Nat} (hf : cn_fl mi.1.cls idx ci k) (ho : cn_ob S a ci) (hbS : b < S.1) (hr : cn_isr (cn_ft ci k) = true) (hfin : (cn_cl[ci]?).map (fun q => (q.2.1 k).2.2.2) = some false) (hn : ∀ x : Nat, narrow (cn_ft ci k) (.ref x) = .ref x) (hfit : ∀ x : Nat, fits (cn_ft ci k) (.ref x) = true) (hd : decode mi.2.1 pc = .ok (.putfield idx, 3)) (hp : pc + 3 = pc') (K : cn_V l en mi d kc ks S I (cn_wp P a k (some b)) Q pc' lv st) : cn_V l en mi d kc ks S I P Q pc lv (.ref b :: .ref a :: st) := by
  subst hp
  intro p e R s m args below meth c Z H locs cells slots ls C hc hs hH hS hl hk
  obtain ⟨hx, hb, hml, hr0, hown, hts, hlocks, hname, hK, hX, hbB, hBs, hdF, hdL⟩ := id C
  obtain ⟨C0, T, N, hok, hkN, hlink⟩ := hf
  have hNk : k < cn_NF ci := by rw [hok.2.2.2.2.1]; exact hkN
  have hw : (cn_ws en S I P)[a]? = some (cn_B en + a, .inr (ci, cn_fs en ci (I a) (P a))) := by rw [cn_ws_at ho.1, cn_ob_cell ho]
  have hT : (T k).1 = C0 := hok.2.2.2.2.2 k hkN
  have hF := cn_fin_of hok hfin
  show W p l e R s m args below meth c H locs cells slots Z (F0 m pc ls (cn_rv en (.ref b) :: cn_rv en (.ref a) :: st.map (cn_rv en)))
  rw [cn_rv_ref hH ho.1, cn_rv_ref hH hbS]
  have hap := va_apart (own := mi.1.cls) hts hok.2.1 (cn_ft ci) hok.2.2.1 hok.2.2.2.1 hK.1 hok.1
  obtain ⟨r, h1, cell, q1, q2, q3, q4⟩ := hH.1 a _ hw
  have hr : r = (C0, T, N) := Option.some.inj (h1.symm.trans hok.1)
  subst hr
  obtain ⟨hSl, hfc, kC, hkC, hkind⟩ := hK.1.1 ci _ hok.1
  obtain ⟨cf, kf, fi, f, hi, hsl⟩ := hSl k hkN
  have hsame : s.fieldFound? C0 (T k).2.1 (T k).2.2.1 = some (cf, kf, fi, f) := by rw [hT] at hi; exact hi
  have hlay := hts _ (hok.2.1 _ (u_in_lay hkN))
  unfold u_lay at hlay
  have hst := (u_facts hfc hkC (u_lays hts hok.2.1 hkN) hi).1
  have fin : ∀ H1 : Heap, H1[cn_B en + a]? = some (cell.setSlot (cn_D en |>.2 ci k) (.ref (cn_B en + b))) → H1.size = H.size → (∀ q, q ≠ cn_B en + a → H1[q]? = H[q]?) → cn_H en S I (cn_wp P a k (some b)) H1 := by
    intro H1 e1 e2 e3
    refine cn_H.set hH ho.1 ?_ e2 e3 (fun _ _ => rfl) (fun b hb => cn_wp_ne hb) hH.2.2.1
    rw [cn_ob_cell ho, cn_wp_row, ← cn_fs_setp hNk hr, show va_rf ((some b).map (cn_ad en)) = .ref (cn_B en + b) by simp [va_rf, cn_ad_lt (show b < 1000000 by have := hH.2.2.2; omega)]]
    exact ⟨_, hok.1, t_OB.to (V := updV (vp_V (cn_fs en ci (I a) (P a))) k (.ref (cn_B en + b))) ⟨_, e1, q2, q3, t_set q4 hap hkN (.ref (cn_B en + b))⟩ (fun j _ => vp_updV_set (by rw [cn_fs_len]; exact hNk) (.ref (cn_B en + b)) j)⟩
  rw [if_neg (by rw [hF]; decide)] at hlay
  have h6 := u_store hfc hkC hkind hlay hi (hok.2.2.1 k hkN) (hn (cn_B en + b)) (hfit (cn_B en + b))
  rcases hlink with h | ⟨host, h⟩
  · refine W.putK hx hb (f := f) ⟨hown, hts _ h, ⟨_, _, _, hsame⟩, hst⟩ (by rw [q2]; exact h6) q1 q3 (by rw [hsl]; exact k2_hasslot (q4 k hkN)) rfl rfl hd fun H1 e1 e2 e3 => ?_
    rw [hsl] at e1 ⊢
    exact K p e R s m args below meth c Z H1 _ cells slots ls C hc hs (fin H1 e1 e2 e3) (hS.put e2 e3 (Nat.le_add_right _ _)) hl hk
  · refine va_WputK hx hb (f := f) hown (va_Nw.use rfl (hK.2.1 _ h)) hsame hst (by rw [q2]; exact h6) q1 q3 (by rw [hsl]; exact k2_hasslot (q4 k hkN)) rfl rfl hd fun H1 e1 e2 e3 => ?_
    rw [hsl] at e1 ⊢
    exact K p e R s m args below meth c Z H1 _ cells slots ls C hc hs (fin H1 e1 e2 e3) (hS.put e2 e3 (Nat.le_add_right _ _)) hl hk
theorem cn_putF {l : Launch} {en : cn_E} {mi : cn_M} {d kc ks : Nat} {S : cn_S} {I : cn_I} {P : cn_P} {Q : Option Value → cn_S → cn_I → cn_P → Prop} {pc pc' : Nat} {lv : List (Nat × Value)} {st : List Value} {a b ci k idx : Nat} {C0 : String} {T : u_T} {N : Nat} (hok : cn_cok ci C0 T N) (hkN : k < N) (hlink : Cond.fieldLink mi.1.cls idx C0 (T k).2.1 (T k).2.2.1 ∈ cn_T) (hdecl : mi.1.cls = C0) (ho : cn_ob S a ci) (hbS : b < S.1) (hr : cn_isr (cn_ft ci k) = true) (hfin : (cn_cl[ci]?).map (fun q => (q.2.1 k).2.2.2) = some true) (hini : mi.1.name = "<init>") (hn : ∀ x : Nat, narrow (cn_ft ci k) (.ref x) = .ref x) (hfit : ∀ x : Nat, fits (cn_ft ci k) (.ref x) = true) (hd : decode mi.2.1 pc = .ok (.putfield idx, 3)) (hp : pc + 3 = pc') (K : cn_V l en mi d kc ks S I (cn_wp P a k (some b)) Q pc' lv st) : cn_V l en mi d kc ks S I P Q pc lv (.ref b :: .ref a :: st) := by
  subst hp
  intro p e R s m args below meth c Z H locs cells slots ls C hc hs hH hS hl hk
  obtain ⟨hx, hb, hml, hr0, hown, hts, hlocks, hname, hK, hX, hbB, hBs, hdF, hdL⟩ := id C
  have hNk : k < cn_NF ci := by rw [hok.2.2.2.2.1]; exact hkN
  have hw : (cn_ws en S I P)[a]? = some (cn_B en + a, .inr (ci, cn_fs en ci (I a) (P a))) := by rw [cn_ws_at ho.1, cn_ob_cell ho]
  have hT : (T k).1 = C0 := hok.2.2.2.2.2 k hkN
  have hF := cn_fin_of hok hfin
  show W p l e R s m args below meth c H locs cells slots Z (F0 m pc ls (cn_rv en (.ref b) :: cn_rv en (.ref a) :: st.map (cn_rv en)))
  rw [cn_rv_ref hH ho.1, cn_rv_ref hH hbS]
  have hap := va_apart (own := mi.1.cls) hts hok.2.1 (cn_ft ci) hok.2.2.1 hok.2.2.2.1 hK.1 hok.1
  obtain ⟨r, h1, cell, q1, q2, q3, q4⟩ := hH.1 a _ hw
  have hr : r = (C0, T, N) := Option.some.inj (h1.symm.trans hok.1)
  subst hr
  obtain ⟨hSl, hfc, kC, hkC, hkind⟩ := hK.1.1 ci _ hok.1
  obtain ⟨cf, kf, fi, f, hi, hsl⟩ := hSl k hkN
  have hsame : s.fieldFound? C0 (T k).2.1 (T k).2.2.1 = some (cf, kf, fi, f) := by rw [hT] at hi; exact hi
  have hlay := hts _ (hok.2.1 _ (u_in_lay hkN))
  unfold u_lay at hlay
  have hst := (u_facts hfc hkC (u_lays hts hok.2.1 hkN) hi).1
  have fin : ∀ H1 : Heap, H1[cn_B en + a]? = some (cell.setSlot (cn_D en |>.2 ci k) (.ref (cn_B en + b))) → H1.size = H.size → (∀ q, q ≠ cn_B en + a → H1[q]? = H[q]?) → cn_H en S I (cn_wp P a k (some b)) H1 := by
    intro H1 e1 e2 e3
    refine cn_H.set hH ho.1 ?_ e2 e3 (fun _ _ => rfl) (fun b hb => cn_wp_ne hb) hH.2.2.1
    rw [cn_ob_cell ho, cn_wp_row, ← cn_fs_setp hNk hr, show va_rf ((some b).map (cn_ad en)) = .ref (cn_B en + b) by simp [va_rf, cn_ad_lt (show b < 1000000 by have := hH.2.2.2; omega)]]
    exact ⟨_, hok.1, t_OB.to (V := updV (vp_V (cn_fs en ci (I a) (P a))) k (.ref (cn_B en + b))) ⟨_, e1, q2, q3, t_set q4 hap hkN (.ref (cn_B en + b))⟩ (fun j _ => vp_updV_set (by rw [cn_fs_len]; exact hNk) (.ref (cn_B en + b)) j)⟩
  rw [if_pos hF] at hlay
  have hcf : m.cls = cf := by
    obtain ⟨_, _, c', _, _, _, -, -, hf', -, -, -, hown2, -⟩ := Cond.laysFinal_spec hlay
    have e1 : c' = cf := by have := hi.symm.trans hf'; simp at this; exact this.1.symm
    rw [hT, ← hdecl] at hown2
    rw [← e1]; exact Option.some.inj (hown.symm.trans hown2)
  have h6 := u_fits hfc hkC hkind (Or.inr hlay) hi (hok.2.2.1 k hkN) (hn (cn_B en + b)) (hfit (cn_B en + b))
  refine W.putFinK hx hb hown (hts _ hlink) hsame hst hcf (hname hini) (by rw [q2]; exact h6) q1 q3 (by rw [hsl]; exact k2_hasslot (q4 k hkN)) rfl rfl hd fun H1 e1 e2 e3 => ?_
  rw [hsl] at e1 ⊢
  exact K p e R s m args below meth c Z H1 _ cells slots ls C hc hs (fin H1 e1 e2 e3) (hS.put e2 e3 (Nat.le_add_right _ _)) hl hk
theorem cn_ix {j n : Nat} (h : j < n) (hn : n < 2 ^ 31) : vp_in (nI j) n ∧ (nI j).toNatClampNeg = j := ⟨vp_in_nI h hn, nI_clamp (by omega)⟩
theorem cn_alen {l : Launch} {en : cn_E} {mi : cn_M} {d kc ks : Nat} {S : cn_S} {I : cn_I} {P : cn_P} {Q : Option Value → cn_S → cn_I → cn_P → Prop} {pc pc' : Nat} {lv : List (Nat × Value)} {st : List Value} {a t n : Nat} (hA : cn_ar S a t n) (ht : t < 7) (hd : decode mi.2.1 pc = .ok (.arraylength, 1)) (hp : pc + 1 = pc') (K : cn_V l en mi d kc ks S I P Q pc' lv (.int (nI n) :: st)) : cn_V l en mi d kc ks S I P Q pc lv (.ref a :: st) := by
  subst hp
  intro p e R s m args below meth c Z H locs cells slots ls C hc hs hH hS hl hk
  obtain ⟨hx, hb, hml, hr0, hown, hts, hlocks, hname, hK, hX, hbB, hBs, hdF, hdL⟩ := id C
  show W p l e R s m args below meth c H locs cells slots Z (F0 m pc ls (cn_rv en (.ref a) :: st.map (cn_rv en)))
  rw [cn_rv_ref hH hA.1]
  by_cases h3 : t < 3
  · exact va_alen (v := nI n) hx hb hK.1 hH.1 a t (by rw [cn_ws_at hA.1, cn_ar_cell hA h3]) (cn_tys_at ht) rfl hd (K p e R s m args below meth c Z H locs cells slots ls C hc hs hH hS hl hk)
  · exact va_alen (v := nI n) hx hb hK.1 hH.1 a t (by rw [cn_ws_at hA.1, cn_ar_cellq hA h3]) (cn_tys_at ht) rfl hd (K p e R s m args below meth c Z H locs cells slots ls C hc hs hH hS hl hk)
theorem cn_iald {l : Launch} {en : cn_E} {mi : cn_M} {d kc ks : Nat} {S : cn_S} {I : cn_I} {P : cn_P} {Q : Option Value → cn_S → cn_I → cn_P → Prop} {pc pc' : Nat} {lv : List (Nat × Value)} {st : List Value} {a n j : Nat} (hA : cn_ar S a 0 n) (hj : j < n) (hn : n < 2 ^ 31) (hd : decode mi.2.1 pc = .ok (.iaload, 1)) (hp : pc + 1 = pc') (K : cn_V l en mi d kc ks S I P Q pc' lv (.int (I a j) :: st)) : cn_V l en mi d kc ks S I P Q pc lv (.int (nI j) :: .ref a :: st) := by
  subst hp
  intro p e R s m args below meth c Z H locs cells slots ls C hc hs hH hS hl hk
  obtain ⟨hx, hb, hml, hr0, hown, hts, hlocks, hname, hK, hX, hbB, hBs, hdF, hdL⟩ := id C
  obtain ⟨i1, i2⟩ := cn_ix hj hn
  show W p l e R s m args below meth c H locs cells slots Z (F0 m pc ls (.int (nI j) :: cn_rv en (.ref a) :: st.map (cn_rv en)))
  rw [cn_rv_ref hH hA.1]
  refine va_iald hx hb hK.1 hH.1 a 0 (by rw [cn_ws_at hA.1, cn_ar_cell hA (by decide)]) (cn_tys_at (by decide)) i1 hd ?_
  rw [i2]
  exact K p e R s m args below meth c Z H locs cells slots ls C hc hs hH hS hl hk
theorem cn_bald {l : Launch} {en : cn_E} {mi : cn_M} {d kc ks : Nat} {S : cn_S} {I : cn_I} {P : cn_P} {Q : Option Value → cn_S → cn_I → cn_P → Prop} {pc pc' : Nat} {lv : List (Nat × Value)} {st : List Value} {a n j : Nat} (hA : cn_ar S a 1 n) (hj : j < n) (hn : n < 2 ^ 31) (hd : decode mi.2.1 pc = .ok (.baload, 1)) (hp : pc + 1 = pc') (K : cn_V l en mi d kc ks S I P Q pc' lv (.int (I a j) :: st)) : cn_V l en mi d kc ks S I P Q pc lv (.int (nI j) :: .ref a :: st) := by
  subst hp
  intro p e R s m args below meth c Z H locs cells slots ls C hc hs hH hS hl hk
  obtain ⟨hx, hb, hml, hr0, hown, hts, hlocks, hname, hK, hX, hbB, hBs, hdF, hdL⟩ := id C
  obtain ⟨i1, i2⟩ := cn_ix hj hn
  show W p l e R s m args below meth c H locs cells slots Z (F0 m pc ls (.int (nI j) :: cn_rv en (.ref a) :: st.map (cn_rv en)))
  rw [cn_rv_ref hH hA.1]
  refine va_bald hx hb hK.1 hH.1 a 1 (by rw [cn_ws_at hA.1, cn_ar_cell hA (by decide)]) (cn_tys_at (by decide)) i1 hd ?_
  rw [i2]
  exact K p e R s m args below meth c Z H locs cells slots ls C hc hs hH hS hl hk
theorem cn_zald {l : Launch} {en : cn_E} {mi : cn_M} {d kc ks : Nat} {S : cn_S} {I : cn_I} {P : cn_P} {Q : Option Value → cn_S → cn_I → cn_P → Prop} {pc pc' : Nat} {lv : List (Nat × Value)} {st : List Value} {a n j : Nat} (hA : cn_ar S a 2 n) (hj : j < n) (hn : n < 2 ^ 31) (hd : decode mi.2.1 pc = .ok (.baload, 1)) (hp : pc + 1 = pc') (K : cn_V l en mi d kc ks S I P Q pc' lv (.int (I a j) :: st)) : cn_V l en mi d kc ks S I P Q pc lv (.int (nI j) :: .ref a :: st) := by
  subst hp
  intro p e R s m args below meth c Z H locs cells slots ls C hc hs hH hS hl hk
  obtain ⟨hx, hb, hml, hr0, hown, hts, hlocks, hname, hK, hX, hbB, hBs, hdF, hdL⟩ := id C
  obtain ⟨i1, i2⟩ := cn_ix hj hn
  show W p l e R s m args below meth c H locs cells slots Z (F0 m pc ls (.int (nI j) :: cn_rv en (.ref a) :: st.map (cn_rv en)))
  rw [cn_rv_ref hH hA.1]
  refine va_zald hx hb hK.1 hH.1 a 2 (by rw [cn_ws_at hA.1, cn_ar_cell hA (by decide)]) (cn_tys_at (by decide)) i1 hd ?_
  rw [i2]
  exact K p e R s m args below meth c Z H locs cells slots ls C hc hs hH hS hl hk
theorem cn_aald {l : Launch} {en : cn_E} {mi : cn_M} {d kc ks : Nat} {S : cn_S} {I : cn_I} {P : cn_P} {Q : Option Value → cn_S → cn_I → cn_P → Prop} {pc pc' : Nat} {lv : List (Nat × Value)} {st : List Value} {a t n j b : Nat} {E : String} (hA : cn_ar S a t n) (ht : ¬ t < 3) (ht7 : t < 7) (hE : cn_ty t = .object E) (hj : j < n) (hn : n < 2 ^ 31) (hP0 : P a j = some b) (hd : decode mi.2.1 pc = .ok (.aaload, 1)) (hp : pc + 1 = pc') (K : cn_V l en mi d kc ks S I P Q pc' lv (.ref b :: st)) : cn_V l en mi d kc ks S I P Q pc lv (.int (nI j) :: .ref a :: st) := by
  subst hp
  intro p e R s m args below meth c Z H locs cells slots ls C hc hs hH hS hl hk
  obtain ⟨hx, hb, hml, hr0, hown, hts, hlocks, hname, hK, hX, hbB, hBs, hdF, hdL⟩ := id C
  obtain ⟨i1, i2⟩ := cn_ix hj hn
  show W p l e R s m args below meth c H locs cells slots Z (F0 m pc ls (.int (nI j) :: cn_rv en (.ref a) :: st.map (cn_rv en)))
  rw [cn_rv_ref hH hA.1]
  refine va_aldq (C := E) hx hb hK.1 hH.1 a t (by rw [cn_ws_at hA.1, cn_ar_cellq hA ht]) (by rw [cn_tys_at ht7, hE]) i1 hd ?_
  rw [i2, hP0]
  exact K p e R s m args below meth c Z H locs cells slots ls C hc hs hH hS hl hk
theorem cn_nar_fit (x : Int32) : fits .byte (.int (vp_nar .byte x)) = true := pk_fb x
theorem cn_bok_i {S : cn_S} {I : cn_I} {a t n k : Nat} {v : Int32} (h : cn_bok S I) (ho : cn_ar S a t n) (ht : t ≠ 1) : cn_bok S (cn_wi I a k v) := by
  intro b n' hb j
  have hne : b ≠ a := fun e => by rw [e, ho.2] at hb; cases hb; exact ht rfl
  rw [cn_wi_ne hne]
  exact h b n' hb j
theorem cn_bok_b {S : cn_S} {I : cn_I} {a k : Nat} {v : Int32} (h : cn_bok S I) (hv : fits .byte (.int v) = true) : cn_bok S (cn_wi I a k v) := by
  intro b n hb j
  by_cases hne : b = a
  · subst hne
    rw [cn_wi_row]
    by_cases hj : j = k
    · subst hj
      simp only [upd, if_true]
      exact hv
    · simp only [upd, if_neg hj]
      exact h b n hb j
  · rw [cn_wi_ne hne]
    exact h b n hb j
theorem cn_iast {l : Launch} {en : cn_E} {mi : cn_M} {d kc ks : Nat} {S : cn_S} {I : cn_I} {P : cn_P} {Q : Option Value → cn_S → cn_I → cn_P → Prop} {pc pc' : Nat} {lv : List (Nat × Value)} {st : List Value} {a n j : Nat} {v : Int32} (hA : cn_ar S a 0 n) (hj : j < n) (hn : n < 2 ^ 31) (hd : decode mi.2.1 pc = .ok (.iastore, 1)) (hp : pc + 1 = pc') (K : cn_V l en mi d kc ks S (cn_wi I a j v) P Q pc' lv st) : cn_V l en mi d kc ks S I P Q pc lv (.int v :: .int (nI j) :: .ref a :: st) := by
  subst hp
  intro p e R s m args below meth c Z H locs cells slots ls C hc hs hH hS hl hk
  obtain ⟨hx, hb, hml, hr0, hown, hts, hlocks, hname, hK, hX, hbB, hBs, hdF, hdL⟩ := id C
  obtain ⟨i1, i2⟩ := cn_ix hj hn
  show W p l e R s m args below meth c H locs cells slots Z (F0 m pc ls (.int v :: .int (nI j) :: cn_rv en (.ref a) :: st.map (cn_rv en)))
  rw [cn_rv_ref hH hA.1]
  have ha : (cn_ws en S I P)[a]? = some (cn_B en + a, .inl (cn_dA en 0, n, .inl (I a))) := by rw [cn_ws_at hA.1, cn_ar_cell hA (by decide)]
  refine W.iast hx hb (hH.1 a _ ha) ((hK.1.2 0 _ (cn_tys_at (by decide))).1 n (fun j => .int (I a j))) (fun q => by cases q) (by show ¬ (nI j < 0 ∨ (arrV _ _ _).slots.size ≤ _); rw [arrV_size]; exact i1) rfl rfl hd fun H1 e1 e2 e3 => ?_
  refine K p e R s m args below meth c Z H1 _ cells slots ls C hc hs (cn_H.set hH hA.1 ?_ e2 e3 (fun b hb => cn_wi_ne hb) (fun _ _ => rfl) (cn_bok_i hH.2.2.1 hA (by decide))) (hS.put e2 e3 (Nat.le_add_right _ _)) hl hk
  rw [cn_ar_cell hA (by decide), cn_wi_row]
  show H1[cn_B en + a]? = some (vp_cell _ _)
  rw [e1]
  show some ((arrV (cn_dA en 0) n (fun j => .int (I a j))).setSlot _ _) = _
  rw [vp_cell_i, arrV_store, i2]
  congr 2
  funext q
  by_cases hq : q = j
  · subst hq
    simp [updV, upd]
    try rfl
  · simp [updV, upd, hq]
theorem cn_bast {l : Launch} {en : cn_E} {mi : cn_M} {d kc ks : Nat} {S : cn_S} {I : cn_I} {P : cn_P} {Q : Option Value → cn_S → cn_I → cn_P → Prop} {pc pc' : Nat} {lv : List (Nat × Value)} {st : List Value} {a n j : Nat} {v : Int32} (hA : cn_ar S a 1 n) (hj : j < n) (hn : n < 2 ^ 31) (hd : decode mi.2.1 pc = .ok (.bastore, 1)) (hp : pc + 1 = pc') (K : cn_V l en mi d kc ks S (cn_wi I a j (vp_nar .byte v)) P Q pc' lv st) : cn_V l en mi d kc ks S I P Q pc lv (.int v :: .int (nI j) :: .ref a :: st) := by
  subst hp
  intro p e R s m args below meth c Z H locs cells slots ls C hc hs hH hS hl hk
  obtain ⟨hx, hb, hml, hr0, hown, hts, hlocks, hname, hK, hX, hbB, hBs, hdF, hdL⟩ := id C
  obtain ⟨i1, i2⟩ := cn_ix hj hn
  show W p l e R s m args below meth c H locs cells slots Z (F0 m pc ls (.int v :: .int (nI j) :: cn_rv en (.ref a) :: st.map (cn_rv en)))
  rw [cn_rv_ref hH hA.1]
  have ha : (cn_ws en S I P)[a]? = some (cn_B en + a, .inl (cn_dA en 1, n, .inl (I a))) := by rw [cn_ws_at hA.1, cn_ar_cell hA (by decide)]
  refine W.bast hx hb (hH.1 a _ ha) ((hK.1.2 1 _ (cn_tys_at (by decide))).1 n (fun j => .int (I a j))) (fun q => by cases q) (by show ¬ (nI j < 0 ∨ (arrV _ _ _).slots.size ≤ _); rw [arrV_size]; exact i1) rfl rfl hd fun H1 e1 e2 e3 => ?_
  refine K p e R s m args below meth c Z H1 _ cells slots ls C hc hs (cn_H.set hH hA.1 ?_ e2 e3 (fun b hb => cn_wi_ne hb) (fun _ _ => rfl) (cn_bok_b hH.2.2.1 (cn_nar_fit v))) (hS.put e2 e3 (Nat.le_add_right _ _)) hl hk
  rw [cn_ar_cell hA (by decide), cn_wi_row]
  show H1[cn_B en + a]? = some (vp_cell _ _)
  rw [e1]
  show some ((arrV (cn_dA en 1) n (fun j => .int (I a j))).setSlot _ _) = _
  rw [vp_cell_i, arrV_store, i2]
  congr 2
  funext q
  by_cases hq : q = j
  · subst hq
    simp [updV, upd, vp_nar]
    try rfl
  · simp [updV, upd, hq]
theorem cn_zast {l : Launch} {en : cn_E} {mi : cn_M} {d kc ks : Nat} {S : cn_S} {I : cn_I} {P : cn_P} {Q : Option Value → cn_S → cn_I → cn_P → Prop} {pc pc' : Nat} {lv : List (Nat × Value)} {st : List Value} {a n j : Nat} {v : Int32} (hA : cn_ar S a 2 n) (hj : j < n) (hn : n < 2 ^ 31) (hd : decode mi.2.1 pc = .ok (.bastore, 1)) (hp : pc + 1 = pc') (K : cn_V l en mi d kc ks S (cn_wi I a j (vp_nar .boolean v)) P Q pc' lv st) : cn_V l en mi d kc ks S I P Q pc lv (.int v :: .int (nI j) :: .ref a :: st) := by
  subst hp
  intro p e R s m args below meth c Z H locs cells slots ls C hc hs hH hS hl hk
  obtain ⟨hx, hb, hml, hr0, hown, hts, hlocks, hname, hK, hX, hbB, hBs, hdF, hdL⟩ := id C
  obtain ⟨i1, i2⟩ := cn_ix hj hn
  show W p l e R s m args below meth c H locs cells slots Z (F0 m pc ls (.int v :: .int (nI j) :: cn_rv en (.ref a) :: st.map (cn_rv en)))
  rw [cn_rv_ref hH hA.1]
  have ha : (cn_ws en S I P)[a]? = some (cn_B en + a, .inl (cn_dA en 2, n, .inl (I a))) := by rw [cn_ws_at hA.1, cn_ar_cell hA (by decide)]
  refine W.zast hx hb (hH.1 a _ ha) ((hK.1.2 2 _ (cn_tys_at (by decide))).1 n (fun j => .int (I a j))) (fun q => by cases q) (by show ¬ (nI j < 0 ∨ (arrV _ _ _).slots.size ≤ _); rw [arrV_size]; exact i1) rfl rfl hd fun H1 e1 e2 e3 => ?_
  refine K p e R s m args below meth c Z H1 _ cells slots ls C hc hs (cn_H.set hH hA.1 ?_ e2 e3 (fun b hb => cn_wi_ne hb) (fun _ _ => rfl) (cn_bok_i hH.2.2.1 hA (by decide))) (hS.put e2 e3 (Nat.le_add_right _ _)) hl hk
  rw [cn_ar_cell hA (by decide), cn_wi_row]
  show H1[cn_B en + a]? = some (vp_cell _ _)
  rw [e1]
  show some ((arrV (cn_dA en 2) n (fun j => .int (I a j))).setSlot _ _) = _
  rw [vp_cell_i, arrV_store, i2]
  congr 2
  funext q
  by_cases hq : q = j
  · subst hq
    simp [updV, upd, vp_nar]
    try rfl
  · simp [updV, upd, hq]
theorem cn_aast {l : Launch} {en : cn_E} {mi : cn_M} {d kc ks : Nat} {S : cn_S} {I : cn_I} {P : cn_P} {Q : Option Value → cn_S → cn_I → cn_P → Prop} {pc pc' : Nat} {lv : List (Nat × Value)} {st : List Value} {a b t n j cj : Nat} {r : vw_C} (hA : cn_ar S a t n) (ht : ¬ t < 3) (ht7 : t < 7) (hB : cn_ob S b cj) (hc0 : cn_cl[cj]? = some r) (hE : cn_ty t = .object r.1) (hj : j < n) (hn : n < 2 ^ 31) (hd : decode mi.2.1 pc = .ok (.aastore, 1)) (hp : pc + 1 = pc') (K : cn_V l en mi d kc ks S I (cn_wp P a j (some b)) Q pc' lv st) : cn_V l en mi d kc ks S I P Q pc lv (.ref b :: .int (nI j) :: .ref a :: st) := by
  subst hp
  intro p e R s m args below meth c Z H locs cells slots ls C hc hs hH hS hl hk
  obtain ⟨hx, hb, hml, hr0, hown, hts, hlocks, hname, hK, hX, hbB, hBs, hdF, hdL⟩ := id C
  obtain ⟨i1, i2⟩ := cn_ix hj hn
  show W p l e R s m args below meth c H locs cells slots Z (F0 m pc ls (cn_rv en (.ref b) :: .int (nI j) :: cn_rv en (.ref a) :: st.map (cn_rv en)))
  rw [cn_rv_ref hH hA.1, cn_rv_ref hH hB.1]
  have ha : (cn_ws en S I P)[a]? = some (cn_B en + a, .inl (cn_dA en t, n, .inr (.inr (.inr (.inr (fun j => (P a j).map (cn_ad en))))))) := by rw [cn_ws_at hA.1, cn_ar_cellq hA ht]
  have hv : (cn_ws en S I P)[b]? = some (cn_B en + b, .inr (cj, cn_fs en cj (I b) (P b))) := by rw [cn_ws_at hB.1, cn_ob_cell hB]
  have htt : (cn_tys en)[t]? = some (cn_dA en t, .object r.1) := by rw [cn_tys_at ht7, hE]
  have h0 : ¬ nI j < 0 := fun q => i1 (Or.inl q)
  obtain ⟨r', hr', cellV, g1, g2, g3, -⟩ := hH.1 b _ hv
  have hcls := (hK.1.1 cj r hc0).2
  obtain ⟨kA, comp, k1, k2, k3, -⟩ := (hK.1.2 t _ htt).2
  have hcomp : comp = (cn_D en).1 cj := Option.some.inj (k3.symm.trans hcls.1)
  subst hcomp
  obtain ⟨kC, hkC, -⟩ := hcls.2
  refine W.aast hx hb (hH.1 a _ ha) (fun q h => by cases h) (fun h => by cases h) k1 k2 rfl hkC ⟨h0, by show _ < (arrV _ _ _).slots.size; rw [arrV_size, i2]; exact hj⟩ g1 (fun q h => by rw [g3] at h; cases h) (by rw [g2]; exact hkC) (by rw [g2]; exact va_assign hcls) rfl rfl hd fun H1 e1 e2 e3 => ?_
  refine K p e R s m args below meth c Z H1 _ cells slots ls C hc hs (cn_H.set hH hA.1 ?_ e2 e3 (fun _ _ => rfl) (fun b hb => cn_wp_ne hb) hH.2.2.1) (hS.put e2 e3 (Nat.le_add_right _ _)) hl hk
  rw [cn_ar_cellq hA ht, cn_wp_row]
  show H1[cn_B en + a]? = some (vp_cell _ _)
  rw [e1]
  show some ((arrV (cn_dA en t) n (fun j => va_rf ((P a j).map (cn_ad en)))).setSlot _ _) = _
  rw [vp_cell_q, arrV_store, i2]
  congr 2
  funext q
  by_cases hq : q = j
  · subst hq
    simp [updV, va_up, va_rf, cn_ad_lt (show b < 1000000 by have := hB.1; have := hH.2.2.2; omega)]
  · simp [updV, va_up, hq]
theorem cn_sld {l : Launch} {en : cn_E} {mi : cn_M} {d kc ks : Nat} {S : cn_S} {I : cn_I} {P : cn_P} {Q : Option Value → cn_S → cn_I → cn_P → Prop} {pc pc' : Nat} {lv : List (Nat × Value)} {st : List Value} {j : Nat} (hj : j < cn_L en) (hn : cn_L en < 2 ^ 31) (hd : decode mi.2.1 pc = .ok (.iaload, 1)) (hp : pc + 1 = pc') (K : cn_V l en mi d kc ks S I P Q pc' lv (.int (cn_x en j) :: st)) : cn_V l en mi d kc ks S I P Q pc lv (.int (nI j) :: .ref 1000000 :: st) := by
  subst hp
  intro p e R s m args below meth c Z H locs cells slots ls C hc hs hH hS hl hk
  obtain ⟨hx, hb, hml, hr0, hown, hts, hlocks, hname, hK, hX, hbB, hBs, hdF, hdL⟩ := id C
  obtain ⟨i1, i2⟩ := cn_ix hj hn
  have h := K p e R s m args below meth c Z H locs cells slots ls C hc hs hH hS hl hk
  rw [← i2] at h
  exact va_sld hx hb hX (Nat.lt_of_lt_of_le hbB hBs) (Nat.not_le.mpr hbB) hS i1 hd h
theorem cn_slen {l : Launch} {en : cn_E} {mi : cn_M} {d kc ks : Nat} {S : cn_S} {I : cn_I} {P : cn_P} {Q : Option Value → cn_S → cn_I → cn_P → Prop} {pc pc' : Nat} {lv : List (Nat × Value)} {st : List Value} (hd : decode mi.2.1 pc = .ok (.arraylength, 1)) (hp : pc + 1 = pc') (K : cn_V l en mi d kc ks S I P Q pc' lv (.int (nI (cn_L en)) :: st)) : cn_V l en mi d kc ks S I P Q pc lv (.ref 1000000 :: st) := by
  subst hp
  intro p e R s m args below meth c Z H locs cells slots ls C hc hs hH hS hl hk
  obtain ⟨hx, hb, hml, hr0, hown, hts, hlocks, hname, hK, hX, hbB, hBs, hdF, hdL⟩ := id C
  exact va_slen hx hb hX (Nat.lt_of_lt_of_le hbB hBs) (Nat.not_le.mpr hbB) hS hd (K p e R s m args below meth c Z H locs cells slots ls C hc hs hH hS hl hk)
end
section
def cn_wq (P : cn_P) (a : Nat) (f : Nat → Option Nat) : cn_P := fun a' => if a' = a then f else P a'
theorem cn_wq_row {P : cn_P} {a : Nat} {f : Nat → Option Nat} : cn_wq P a f a = f := if_pos rfl
theorem cn_wq_ne {P : cn_P} {a b : Nat} {f : Nat → Option Nat} (h : b ≠ a) : cn_wq P a f b = P b := if_neg h
/-- a cell more -/
def cn_Sn (S : cn_S) (n : Nat) (sh : Nat ⊕ (Nat × Nat)) : cn_S := (S.1 + 1, S.2.1 + n, va_up S.2.2 S.1 sh)
def cn_In (S : cn_S) (I : cn_I) : cn_I := cn_wr I S.1 (fun _ => 0)
def cn_Pn (S : cn_S) (P : cn_P) : cn_P := cn_wq P S.1 (fun _ => none)
theorem cn_In_row {S : cn_S} {I : cn_I} : cn_In S I S.1 = fun _ => 0 := if_pos rfl
theorem cn_In_ne {S : cn_S} {I : cn_I} {b : Nat} (h : b ≠ S.1) : cn_In S I b = I b := if_neg h
theorem cn_Pn_row {S : cn_S} {P : cn_P} : cn_Pn S P S.1 = fun _ => none := if_pos rfl
theorem cn_Pn_ne {S : cn_S} {P : cn_P} {b : Nat} (h : b ≠ S.1) : cn_Pn S P b = P b := if_neg h
theorem cn_H.push {en : cn_E} {S : cn_S} {I : cn_I} {P : cn_P} {H H1 : Heap} {n : Nat} {sh : Nat ⊕ (Nat × Nat)} (hH : cn_H en S I P H) (he : va_at (cn_D en) cn_cl (cn_B en + S.1, cn_cell en (cn_Sn S n sh) (cn_In S I) (cn_Pn S P) S.1) H1) (z : H1.size = H.size + 1) (o1 : ∀ q : Nat, q < H.size → H1[q]? = H[q]?) (hsz : S.1 + 1 ≤ 1000000) : cn_H en (cn_Sn S n sh) (cn_In S I) (cn_Pn S P) H1 := by
  refine ⟨fun k q hk => ?_, by rw [z, hH.2.1]; rfl, fun b m hb j => ?_, hsz⟩
  · obtain ⟨hk1, rfl⟩ := cn_ws_inv hk
    have hk1 : k < S.1 + 1 := hk1
    by_cases hkS : k = S.1
    · subst hkS
      exact he
    · have hlt : k < S.1 := by omega
      have h1 := hH.1 k _ (cn_ws_at hlt)
      have e1 : cn_cell en (cn_Sn S n sh) (cn_In S I) (cn_Pn S P) k = cn_cell en S I P k := by
        have e2 : (cn_Sn S n sh).2.2 k = S.2.2 k := va_up_ne _ _ hkS
        unfold cn_cell
        rw [e2, cn_In_ne hkS, cn_Pn_ne hkS]
      rw [e1]
      exact h1.kept (o1 _ h1.lt)
  · by_cases hbS : b = S.1
    · subst hbS
      rw [cn_In_row]
      rfl
    · have e2 : (cn_Sn S n sh).2.2 b = S.2.2 b := va_up_ne _ _ hbS
      rw [e2] at hb
      rw [cn_In_ne hbS]
      exact hH.2.2.1 b m hb j
theorem cn_Sgrow {en : cn_E} {H0 H H1 : Heap} {locs : List Loc} (hS : va_S (cn_A en) H0 H locs) (z : H1.size = H.size + 1) (o1 : ∀ q : Nat, q < H.size → H1[q]? = H[q]?) : va_S (cn_A en) H0 H1 locs :=
  ⟨Nat.le_trans hS.1 (by omega), fun x h1 h2 => (o1 x (Nat.lt_of_lt_of_le h1 hS.1)).trans (hS.2.1 x h1 h2), hS.2.2⟩
theorem cn_new {l : Launch} {en : cn_E} {mi : cn_M} {d kc ks : Nat} {S : cn_S} {I : cn_I} {P : cn_P} {Q : Option Value → cn_S → cn_I → cn_P → Prop} {pc pc' : Nat} {lv : List (Nat × Value)} {st : List Value} {ci idx kc' ks' : Nat} (hw : cn_nw mi.1.cls idx ci) (hdv : ∀ j, j < cn_NF ci → defaultValue (cn_ft ci j) = if cn_isr (cn_ft ci j) = true then .null else .int 0) (hkc : kc' + 1 ≤ kc) (hks : ks' + cn_NF ci ≤ ks) (hsz : S.1 + 1 ≤ 1000000) (hd : decode mi.2.1 pc = .ok (.new idx, 3)) (hp : pc + 3 = pc') (K : cn_V l en mi d kc' ks' (cn_Sn S (cn_NF ci) (.inl ci)) (cn_In S I) (cn_Pn S P) Q pc' lv (.ref S.1 :: st)) : cn_V l en mi d kc ks S I P Q pc lv st := by
  subst hp
  intro p e R s m args below meth c Z H locs cells slots ls C hc hs hH hS hl hk
  obtain ⟨hx, hb, hml, hr0, hown, hts, hlocks, hname, hK, hX, hbB, hBs, hdF, hdL⟩ := id C
  obtain ⟨C0, T, N, hok, hcl, hinst, hini⟩ := hw
  have hN : cn_NF ci = N := hok.2.2.2.2.1
  have hKn := hK.1.1 ci _ hok.1
  refine W.newcK (n := N) hx hb hown (hts _ hcl) (hts _ hinst) (hts _ hini) rfl hd (by omega) (by omega) hKn.2.1 rfl fun H1 kC hkC e1 z1 o1 => ?_
  have hfs : ∀ j, j < N → defaultValue (cn_ft ci j) = vp_V (cn_fs en ci (fun _ => 0) (fun _ => none)) j := by
    intro j hj
    rw [hdv j (by omega)]
    unfold vp_V
    rw [List.getD_eq_getElem?_getD, cn_fs_at (by omega)]
    simp only [cn_fv, Option.getD_some]
    by_cases hr : cn_isr (cn_ft ci j) = true
    · rw [if_pos hr, if_pos hr]; rfl
    · rw [if_neg hr, if_neg hr]
  have hH1 : cn_H en (cn_Sn S (cn_NF ci) (.inl ci)) (cn_In S I) (cn_Pn S P) H1 := by
    refine hH.push ?_ z1 o1 hsz
    have ec : cn_cell en (cn_Sn S (cn_NF ci) (.inl ci)) (cn_In S I) (cn_Pn S P) S.1 = .inr (ci, cn_fs en ci (fun _ => 0) (fun _ => none)) := by
      have e2 : (cn_Sn S (cn_NF ci) (.inl ci)).2.2 S.1 = .inl ci := va_up_self _ _ _
      unfold cn_cell
      rw [e2, cn_In_row, cn_Pn_row]
    rw [ec]
    rw [hH.2.1] at e1
    exact ⟨_, hok.1, (u_born (cn_ft ci) hts hok.2.1 hKn hkC e1 hok.2.2.1).to hfs⟩
  have eA : (Value.ref H.size : Value) = cn_rv en (.ref S.1) := by
    rw [hH.2.1]
    simp [cn_rv, cn_ad_lt (show S.1 < 1000000 by omega)]
  show W p l e R s m args below meth c H1 locs (cells + 1) (slots + N) Z (F0 m (pc + 3) ls (Value.ref H.size :: st.map (cn_rv en)))
  rw [eA]
  exact K p e R s m args below meth c Z H1 locs (cells + 1) (slots + N) ls C (by omega) (by omega) hH1 (cn_Sgrow hS z1 o1) hl (fun r S' I' P' H' locs' c' s' q' l' a1 a2 a3 a4 a5 a6 => hk r S' I' P' H' locs' c' s' q' l' a1 a2 a3 (by omega) (by omega) a6)
theorem cn_newa {l : Launch} {en : cn_E} {mi : cn_M} {d kc ks : Nat} {S : cn_S} {I : cn_I} {P : cn_P} {Q : Option Value → cn_S → cn_I → cn_P → Prop} {pc pc' : Nat} {lv : List (Nat × Value)} {st : List Value} {t n kc' ks' : Nat} {atype : ArrayType} (ht : t < 3) (hty : newarray.typeOf atype = cn_ty t) (hw : Cond.arrayClass (cn_ty t) ∈ cn_T) (hdv : defaultValue (cn_ty t) = .int 0) (hRA : ∀ (U : State) (cA : ClassId), va_RA U cA (cn_ty t) → U.vm.findClass ("[" ++ (cn_ty t).toString) = some cA) (hb8 : componentBytes (cn_ty t) ≤ 8) (hn : n ≤ 60000) (hkc : kc' + 1 ≤ kc) (hks : ks' + n ≤ ks) (hsz : S.1 + 1 ≤ 1000000) (hd : decode mi.2.1 pc = .ok (.newarray atype, 2)) (hp : pc + 2 = pc') (K : cn_V l en mi d kc' ks' (cn_Sn S n (.inr (t, n))) (cn_In S I) (cn_Pn S P) Q pc' lv (.ref S.1 :: st)) : cn_V l en mi d kc ks S I P Q pc lv (.int (nI n) :: st) := by
  subst hp
  intro p e R s m args below meth c Z H locs cells slots ls C hc hs hH hS hl hk
  obtain ⟨hx, hb, hml, hr0, hown, hts, hlocks, hname, hK, hX, hbB, hBs, hdF, hdL⟩ := id C
  have i2 : (nI n).toNatClampNeg = n := nI_clamp (by omega)
  have hbyt : n * componentBytes (newarray.typeOf atype) ≤ 536870912 := by
    rw [hty]
    exact Nat.le_trans (Nat.mul_le_mul hn hb8) (by decide)
  refine va_newaK hx hb (by rw [hty]; exact hts _ hw) rfl hd rfl (nI_pos (by omega)) i2 hbyt (by omega) (by omega) rfl fun H1 cA e1 z1 o1 hAr hNm => ?_
  have hcA : cA = cn_dA en t := by
    have h1 := hRA s _ (hK.1.2 t _ (cn_tys_at (by omega))).2
    rw [hty] at hNm
    exact Option.some.inj (hNm.symm.trans h1)
  subst hcA
  have hH1 : cn_H en (cn_Sn S n (.inr (t, n))) (cn_In S I) (cn_Pn S P) H1 := by
    refine hH.push ?_ z1 o1 hsz
    have ec : cn_cell en (cn_Sn S n (.inr (t, n))) (cn_In S I) (cn_Pn S P) S.1 = .inl (cn_dA en t, n, .inl (fun _ => 0)) := by
      have e2 : (cn_Sn S n (.inr (t, n))).2.2 S.1 = .inr (t, n) := va_up_self _ _ _
      unfold cn_cell
      rw [e2, cn_In_row]
      simp [ht]
    rw [ec]
    show H1[cn_B en + S.1]? = some (vp_cell _ _)
    rw [hH.2.1] at e1
    rw [e1, hty, hdv]
    rfl
  have eA : (Value.ref H.size : Value) = cn_rv en (.ref S.1) := by
    rw [hH.2.1]
    simp [cn_rv, cn_ad_lt (show S.1 < 1000000 by omega)]
  show W p l e R s m args below meth c H1 locs (cells + 1) (slots + n) Z (F0 m (pc + 2) ls (Value.ref H.size :: st.map (cn_rv en)))
  rw [eA]
  exact K p e R s m args below meth c Z H1 locs (cells + 1) (slots + n) ls C (by omega) (by omega) hH1 (cn_Sgrow hS z1 o1) hl (fun r S' I' P' H' locs' c' s' q' l' a1 a2 a3 a4 a5 a6 => hk r S' I' P' H' locs' c' s' q' l' a1 a2 a3 (by omega) (by omega) a6)
theorem cn_newq {l : Launch} {en : cn_E} {mi : cn_M} {d kc ks : Nat} {S : cn_S} {I : cn_I} {P : cn_P} {Q : Option Value → cn_S → cn_I → cn_P → Prop} {pc pc' : Nat} {lv : List (Nat × Value)} {st : List Value} {t n idx kc' ks' : Nat} {E : String} (ht : ¬ t < 3) (ht7 : t < 7) (hE : cn_ty t = .object E) (hO : E ∈ cn_O) (hw : Cond.classLink mi.1.cls idx E ∈ cn_T) (hn : n ≤ 60000) (hkc : kc' + 1 ≤ kc) (hks : ks' + n ≤ ks) (hsz : S.1 + 1 ≤ 1000000) (hd : decode mi.2.1 pc = .ok (.anewarray idx, 3)) (hp : pc + 3 = pc') (K : cn_V l en mi d kc' ks' (cn_Sn S n (.inr (t, n))) (cn_In S I) (cn_Pn S P) Q pc' lv (.ref S.1 :: st)) : cn_V l en mi d kc ks S I P Q pc lv (.int (nI n) :: st) := by
  subst hp
  intro p e R s m args below meth c Z H locs cells slots ls C hc hs hH hS hl hk
  obtain ⟨hx, hb, hml, hr0, hown, hts, hlocks, hname, hK, hX, hbB, hBs, hdF, hdL⟩ := id C
  have i2 : (nI n).toNatClampNeg = n := nI_clamp (by omega)
  refine W.anew hx hb hown (hts _ hw) (va_AO.use (hK.2.2 _ hO)) rfl hd rfl (nI_pos (by omega)) (by rw [i2]; omega) (by omega) (by rw [i2]; omega) fun cA kA comp f1 f2 f3 f4 => ?_
  rw [i2]
  have hcA : cA = cn_dA en t := by
    have h1 := (hK.1.2 t _ (cn_tys_at ht7)).2
    rw [hE] at h1
    obtain ⟨kA', comp', g1, g2, g3, g4⟩ := h1
    exact Option.some.inj (f1.symm.trans g4)
  subst hcA
  generalize hH1 : H.push ({ cls := cn_dA en t, slots := Array.replicate n .null, vm := .none } : Cell) = H1
  have z1 : H1.size = H.size + 1 := by rw [← hH1, Array.size_push]
  have e1 : H1[H.size]? = some (arrV (cn_dA en t) n (fun _ => .null)) := by rw [← hH1, Array.getElem?_push_size, ← arrV_new]
  have o1 : ∀ q : Nat, q < H.size → H1[q]? = H[q]? := fun q hq => by rw [← hH1, Array.getElem?_push, if_neg (Nat.ne_of_lt hq)]
  have hH2 : cn_H en (cn_Sn S n (.inr (t, n))) (cn_In S I) (cn_Pn S P) H1 := by
    refine hH.push ?_ z1 o1 hsz
    have ec : cn_cell en (cn_Sn S n (.inr (t, n))) (cn_In S I) (cn_Pn S P) S.1 = .inl (cn_dA en t, n, .inr (.inr (.inr (.inr (fun _ => none))))) := by
      have e2 : (cn_Sn S n (.inr (t, n))).2.2 S.1 = .inr (t, n) := va_up_self _ _ _
      unfold cn_cell
      rw [e2, cn_Pn_row]
      simp [ht]
    rw [ec]
    show H1[cn_B en + S.1]? = some (vp_cell _ _)
    rw [hH.2.1] at e1
    rw [e1]
    rfl
  have eA : (Value.ref H.size : Value) = cn_rv en (.ref S.1) := by
    rw [hH.2.1]
    simp [cn_rv, cn_ad_lt (show S.1 < 1000000 by omega)]
  show W p l e R s m args below meth c H1 locs (cells + 1) (slots + n) Z (F0 m (pc + 3) ls (Value.ref H.size :: st.map (cn_rv en)))
  rw [eA]
  exact K p e R s m args below meth c Z H1 locs (cells + 1) (slots + n) ls C (by omega) (by omega) hH2 (cn_Sgrow hS z1 o1) hl (fun r S' I' P' H' locs' c' s' q' l' a1 a2 a3 a4 a5 a6 => hk r S' I' P' H' locs' c' s' q' l' a1 a2 a3 (by omega) (by omega) a6)
theorem cn_objInit {l : Launch} {en : cn_E} {mi : cn_M} {d kc ks : Nat} {S : cn_S} {I : cn_I} {P : cn_P} {Q : Option Value → cn_S → cn_I → cn_P → Prop} {pc pc' : Nat} {lv : List (Nat × Value)} {st : List Value} {a idx : Nat} (hw : Cond.methodLink mi.1.cls idx Lib.objectInit ∈ cn_T) (hi : Cond.instanceMethod Lib.objectInit ∈ cn_T) (hco : Cond.code Lib.objectInit ⟨#[0xb1]⟩ 1 none ∈ cn_T) (hd1 : 1 ≤ d) (hr : (st.map fun v => v.category).sum ≤ 8) (hd : decode mi.2.1 pc = .ok (.invokespecial idx, 3)) (hp : pc + 3 = pc') (K : cn_V l en mi d kc ks S I P Q pc' lv st) : cn_V l en mi d kc ks S I P Q pc lv (.ref a :: st) := by
  subst hp
  intro p e R s m args below meth c Z H locs cells slots ls C hc hs hH hS hl hk
  obtain ⟨hx, hb, hml, hr0, hown, hts, hlocks, hname, hK, hX, hbB, hBs, hdF, hdL⟩ := id C
  have hcat : ((st.map (cn_rv en)).map fun v => v.category) = st.map fun v => v.category := by
    rw [List.map_map]
    exact List.map_congr_left (fun v _ => cn_rv_cat en v)
  refine W.objInit hx hb hown (hts _ hw) (hts _ hi) (hts _ hco) rfl (by rw [hml]; exact hl.1) (a := cn_ad en a) rfl hd (by omega) ?_ (K p e R s m args below meth c Z H locs cells slots ls C hc hs hH hS hl hk)
  exact Nat.le_trans (Nat.add_le_add_right (lv_room (by rw [hcat]; exact hr)) 12) (by omega)
def cn_Qc (en : cn_E) (Q : Option Value → cn_S → cn_I → cn_P → Prop) : Array Value → State → Outcome → State → Prop := fun _ st o t => (∃ (r : Option Value) (S' : cn_S) (I' : cn_I) (P' : cn_P), o = .returned (r.map (cn_rv en)) ∧ Q r S' I' P' ∧ cn_H en S' I' P' t.heap) ∧ va_F (cn_A en) st t
def cn_Pc (en : cn_E) (S : cn_S) (I : cn_I) (P : cn_P) (U : State) : Prop := cn_K en U ∧ va_X (cn_b en) (cn_L en) (cn_x en) U U.heap ∧ cn_b en < cn_B en ∧ cn_B en ≤ U.heap.size ∧ cn_H en S I P U.heap
abbrev cn_W (mi : cn_M) : List Cond := Cond.code mi.1 mi.2.1 mi.2.2.1 mi.2.2.2 :: cn_T
abbrev cn_R (d kc ks : Nat) : Room := { frames := d, cells := kc, slots := ks, locals := 64 * d }
theorem cn_args_lv (en : cn_E) : ∀ (as : List Value) (i : Nat), lv_args i (as.map (cn_rv en)) = cn_lv en (lv_args i as)
  | [], _ => rfl
  | v :: vs, i => by
    show (i, cn_rv en v) :: lv_args (if (cn_rv en v).category = 2 then i + 2 else i + 1) (vs.map (cn_rv en)) = (i, cn_rv en v) :: cn_lv en (lv_args (if v.category = 2 then i + 2 else i + 1) vs)
    rw [cn_rv_cat, cn_args_lv en vs]
theorem cn_sl_len (en : cn_E) : ∀ as : List Value, (lg_sl (as.map (cn_rv en))).length = (lg_sl as).length
  | [] => rfl
  | v :: vs => by
    have ih := cn_sl_len en vs
    cases v <;> simp_all [lg_sl, cn_rv, Value.category]
theorem cn_met {l : Launch} {en : cn_E} {mi : cn_M} {d kc ks : Nat} {S : cn_S} {I : cn_I} {P : cn_P} {Q : Option Value → cn_S → cn_I → cn_P → Prop} {as : List Value} (hmo : cn_mok mi) (hlen : (lg_sl as).length ≤ mi.2.2.1) (hV : cn_V l en mi d kc ks S I P Q 0 (lv_args 0 as) []) :
    Met l mi.1 (cn_W mi) (cn_R d kc ks) (va_Pc (as.map (cn_rv en)) (cn_Pc en S I P)) (cn_Qc en Q) kc ks (cn_A en) := by
  refine Met.ofW (cc := mi.2.1) (maxL := mi.2.2.1) (ret := mi.2.2.2) hmo.2.2.2.1 rfl ?_
  intro p e s m args below meth c s₁ B hml hv
  obtain ⟨rfl, hK, hX, hbB, hBs, hH⟩ := hv
  have hts := atoms_spec (ws := cn_W mi) B.pre
  have hown : s.vm.findClass mi.1.cls = some m.cls := findClass_of_methodNamed B.named
  have hnm : meth.name = mi.1.name := (name_of_methodNamed B.named B.method).1
  have hl := lv_entry (as.map (cn_rv en)) (n := mi.2.2.1) (by rw [cn_sl_len]; exact hlen)
  rw [lg_entry_eq]
  generalize (lg_sl (as.map (cn_rv en)) ++ List.replicate (mi.2.2.1 - (lg_sl (as.map (cn_rv en))).length) Slot.unset).toArray = ls at hl ⊢
  rw [cn_args_lv] at hl
  refine hV p e (headSpec (cn_W mi) (cn_R d kc ks)).room s m _ below meth c _ s.heap [] 0 0 ls ⟨B.exec, B.bytes, hml, B.returns, hown, fun w hw => hts w (List.mem_cons_of_mem _ hw), B.notSynchronized, fun h => hnm.trans h, hK, hX, hbB, hBs, Nat.le_refl _, Nat.le_refl _⟩ (by show 0 + kc ≤ kc; omega) (by show 0 + ks ≤ ks; omega) hH va_S.rf hl ?_
  intro r S' I' P' H' locs' cells' slots' pc' ls' hq hH' hS' hc' hs' hret
  have post : ∀ t : State, t.heap = H' → cn_Qc en Q (as.map (cn_rv en)).toArray s (.returned (r.map (cn_rv en))) t := fun t ht => ⟨⟨r, S', I', P', rfl, hq, by rw [ht]; exact hH'⟩, hS'.F ht⟩
  refine W.widen (k := kc) (n := ks) (by omega) (by omega) ?_
  rcases hret with ⟨rfl, e1, e2⟩ | ⟨v, rfl, e2, ty, e1, e3⟩ | ⟨a, rfl, e2, n, e1⟩
  · exact W.vret B.exec B.bytes (B.returns.trans e1) (fun t ht _ => post t ht) hS'.2.2 e2 B.notSynchronized
  · exact W.zret B.exec B.bytes (B.returns.trans e1) e3 (fun t ht _ => post t ht) hS'.2.2 e2 B.notSynchronized
  · exact W.aret B.exec B.bytes (B.returns.trans e1) (Or.inl ⟨n, rfl⟩) (Or.inr ⟨_, rfl⟩) (fun t ht _ => post t ht) hS'.2.2 e2 B.notSynchronized
theorem cn_blind {en : cn_E} {S : cn_S} {I : cn_I} {P : cn_P} {as : List Value} : FrameBlind (va_Pc as (cn_Pc en S I P)) := by
  intro a U g mk h
  obtain ⟨h1, h2, h3, h4⟩ := h
  exact ⟨h1, h2.call, va_X.moved (u := U) (U := U.calling g mk a) (Vm.Alike.refl U.vm) h3, h4⟩
theorem cn_pre {en : cn_E} {S : cn_S} {I : cn_I} {P : cn_P} {as : List Value} {s : State} {H : Heap} {locs : List Loc} (hK : cn_K en s) (hX : va_X (cn_b en) (cn_L en) (cn_x en) s s.heap) (hbB : cn_b en < cn_B en) (hBs : cn_B en ≤ s.heap.size) (hH : cn_H en S I P H) (hS : va_S (cn_A en) s.heap H locs) : ∀ U : State, U.heap = H → s.WarmedH U.vm → va_Pc as (cn_Pc en S I P) as.toArray U := by
  intro U hU hW
  refine ⟨rfl, hK.warm hW, ?_, hbB, by rw [hU]; exact Nat.le_trans hBs hS.1, by rw [hU]; exact hH⟩
  rw [hU]
  exact va_X.moved hW.alike (hX.kept (hS.2.1 _ (Nat.lt_of_lt_of_le hbB hBs) (Nat.not_le.mpr hbB)))
theorem cn_words {mi : cn_M} {s : State} {args : Array Value} (hts : ∀ w ∈ cn_T, w.before args s = true) (hmo : cn_mok mi) : ∀ w ∈ cn_W mi, ∀ (a' : Array Value) (U : State), s.WarmedH U.vm → w.before a' U = true := by
  intro w hw a' U hW
  have h1 : w ∈ cn_T := by
    rcases List.mem_cons.mp hw with rfl | h
    · exact hmo.2.1
    · exact h
  exact word_at hW (good_of_word (List.mem_filter.mp h1).2) (hts w h1)
section
variable {p : Program} {l : Launch} {e : Env} {R : Room} {s : State} {m : MethodId} {args : Array Value} {below : List Frame} {meth : Method} {c : Code} {H : Heap} {locs : List Loc} {cells slots mc ms : Nat} {Z : State → Prop}
theorem cn_after {en : cn_E} {Q : Option Value → cn_S → cn_I → cn_P → Prop} {pc : Nat} {ls : Array Slot} {st0 rest : List Value} {a : Array Value} (hr : va_Run p l e R s m args below meth c H locs cells slots mc ms (F0 m pc ls st0) rest (cn_Qc en Q a) (cn_A en)) (hS : va_S (cn_A en) s.heap H locs)
    (kk : ∀ (r : Option Value) (S' : cn_S) (I' : cn_I) (P' : cn_P) (H1 : Heap) (locs1 : List Loc), Q r S' I' P' → cn_H en S' I' P' H1 → va_S (cn_A en) s.heap H1 locs1 → W p l e R s m args below meth c H1 locs1 (cells + mc) (slots + ms) Z (F0 m (pc + 3) ls ((r.map (cn_rv en)).toList ++ rest))) : W p l e R s m args below meth c H locs cells slots Z (F0 m pc ls st0) := by
  intro T hT X
  obtain ⟨v, st₀, t, T', L, h0, X', hL, e1, e2, ⟨⟨r, S', I', P', hv, hq, hh⟩, hz, hk⟩, st⟩ := hr T hT X
  cases hv
  rw [h0] at hz hk
  obtain ⟨t2, a1, b1⟩ := kk r S' I' P' T'.heap (locs ++ L) hq (by rw [e1]; exact hh)
    ⟨Nat.le_trans hS.1 (by rw [e1]; exact hz), fun q h1 h2 => by rw [e1, hk q (Nat.lt_of_lt_of_le h1 hS.1) h2]; exact hS.2.1 q h1 h2, fun q hq => by
      rcases List.mem_append.mp hq with h | h
      · exact hS.2.2 q h
      · exact hL q h⟩ T' rfl X'
  exact ⟨t2, st t2 a1, b1⟩
end
theorem cn_cat_map (en : cn_E) (st : List Value) : ((st.map (cn_rv en)).map fun v => v.category) = st.map fun v => v.category := by
  rw [List.map_map]
  exact List.map_congr_left (fun v _ => cn_rv_cat en v)
theorem cn_ret_map (en : cn_E) (r : Option Value) (rest : List Value) : ((r.map (cn_rv en)).toList ++ rest.map (cn_rv en)) = (r.toList ++ rest).map (cn_rv en) := by
  cases r <;> simp
theorem cn_callV {l : Launch} {en : cn_E} {mi : cn_M} {d kc ks : Nat} {S : cn_S} {I : cn_I} {P : cn_P} {Q : Option Value → cn_S → cn_I → cn_P → Prop} {pc pc' : Nat} {lv : List (Nat × Value)} {st : List Value} {mj : cn_M} {idx cj n a kc1 ks1 kc2 ks2 : Nat} (as : List Value) {rest : List Value} {lvj : List (Nat × Value)} (hm : cn_mv mi.1.cls idx mj cj n) (ho : cn_ob S a cj) (hst : st = as.reverse ++ .ref a :: rest) (hn : as.length = n) (hlv : lv_args 0 (.ref a :: as) = lvj) (hlen : (lg_sl (.ref a :: as)).length ≤ mj.2.2.1) (hr : (rest.map fun v => v.category).sum ≤ 8) (hd1 : 1 ≤ d) (hkc : kc1 + kc2 ≤ kc) (hks : ks1 + ks2 ≤ ks) (hd : decode mi.2.1 pc = .ok (.invokevirtual idx, 3)) (hp : pc + 3 = pc') (K : cn_V l en mj (d - 1) kc1 ks1 S I P (fun r S' I' P' => cn_V l en mi d kc2 ks2 S' I' P' Q pc' lv (r.toList ++ rest)) 0 lvj []) : cn_V l en mi d kc ks S I P Q pc lv st := by
  subst hp; subst hst; subst hlv
  intro p e R s m args below meth c Z H locs cells slots ls C hc hs hH hS hl hk
  obtain ⟨hx, hb, hml, hr0, hown, hts, hlocks, hname, hK, hX, hbB, hBs, hdF, hdL⟩ := id C
  obtain ⟨hlink, hinst, hsel, hmo, hnp, hcj⟩ := hm
  have hMet := cn_met (as := .ref a :: as) hmo hlen K
  have hA := cn_rv_ref hH ho.1
  have hsig : ∀ sig, parseMethodDescriptor mj.1.desc = some sig → n = sig.parameters.length := fun sig h => by
    have h2 : (parseMethodDescriptor mj.1.desc).map (fun d => d.parameters.length) = some n := hnp
    rw [h] at h2
    exact (Option.some.inj h2).symm
  obtain ⟨⟨C0, T0, N0⟩, hcl, hC0⟩ := Option.map_eq_some_iff.mp hcj
  have hw : (cn_ws en S I P)[a]? = some (cn_B en + a, .inr (cj, cn_fs en cj (I a) (P a))) := by rw [cn_ws_at ho.1, cn_ob_cell ho]
  have hrecv : ∃ cell : Cell, H[cn_B en + a]? = some cell ∧ cell.vm.isStatics = false ∧ s.vm.findClass mj.1.cls = some cell.cls := by
    rw [← hC0]
    exact va_recv hK.1 hH.1 hcl hw
  have hpre := cn_pre (as := (Value.ref a :: as).map (cn_rv en)) hK hX hbB hBs hH hS
  have eargs : (Value.ref a :: as).map (cn_rv en) = Value.ref (cn_B en + a) :: as.map (cn_rv en) := by rw [List.map_cons, hA]
  have hstk : ((as.reverse ++ Value.ref a :: rest).map (cn_rv en)) = (as.map (cn_rv en)).reverse ++ Value.ref (cn_B en + a) :: rest.map (cn_rv en) := by
    rw [List.map_append, List.map_cons, hA, List.map_reverse]
  have hroom := lv_room (m := m) (pc := pc) (ls := ls) (rest := ((as.reverse ++ Value.ref a :: rest).map (cn_rv en))) (st := rest.map (cn_rv en)) (by rw [cn_cat_map]; exact hr)
  have hbl := cn_blind (en := en) (S := S) (I := I) (P := P) (as := (Value.ref a :: as).map (cn_rv en))
  rw [eargs] at hMet hpre hbl
  have hml21 := hmo.2.2.2.2
  refine cn_after (mc := kc1) (ms := ks1) (rest := rest.map (cn_rv en)) (a := (Value.ref (cn_B en + a) :: as.map (cn_rv en)).toArray) (Q := fun r S' I' P' => cn_V l en mi d kc2 ks2 S' I' P' Q (pc + 3) lv (r.toList ++ rest)) ?_ hS (fun r S' I' P' H1 locs1 hq hH1 hS1 => ?_)
  · rcases hlink with h | ⟨host, h⟩
    · exact va_runV (C := mj.1.cls) (bytes := mj.2.1) (maxL := mj.2.2.1) (ret := mj.2.2.2) (n := n) ⟨hx, hb, hml, hown, hts⟩ hMet ⟨⟨rfl, rfl, by show d - 1 + 1 ≤ _; omega, by show 8 + (mj.2.2.1 + 11) + 64 * (d - 1) ≤ _; omega, cn_words hts hmo, List.mem_cons_self, hts _ hmo.2.1, hts _ hmo.1, hmo.2.2.1, hsig, hts _ h⟩, hts _ hinst, hts _ hsel⟩ ⟨hbl, hrecv, hpre⟩ rfl (by rw [List.length_map]; exact hn) hl.1 hstk hroom hd ⟨by omega, by omega⟩
    · exact va_runVN (C := mj.1.cls) (bytes := mj.2.1) (maxL := mj.2.2.1) (ret := mj.2.2.2) (n := n) ⟨hx, hb, hml, hown, hts⟩ hMet ⟨⟨⟨rfl, rfl, by show d - 1 + 1 ≤ _; omega, by show 8 + (mj.2.2.1 + 11) + 64 * (d - 1) ≤ _; omega, cn_words hts hmo, List.mem_cons_self⟩, hts _ hmo.2.1, hts _ hmo.1, hmo.2.2.1, hsig, va_Nw.use rfl (hK.2.1 _ h)⟩, hts _ hinst, hts _ hsel⟩ ⟨hbl, hrecv, hpre⟩ rfl (by rw [List.length_map]; exact hn) hl.1 hstk hroom hd ⟨by omega, by omega⟩
  · rw [cn_ret_map]
    exact hq p e R s m args below meth c Z H1 locs1 _ _ ls C (by omega) (by omega) hH1 hS1 hl (fun r S' I' P' H' locs' c' s' q' l' a1 a2 a3 a4 a5 a6 => hk r S' I' P' H' locs' c' s' q' l' a1 a2 a3 (by omega) (by omega) a6)
theorem cn_callI {l : Launch} {en : cn_E} {mi : cn_M} {d kc ks : Nat} {S : cn_S} {I : cn_I} {P : cn_P} {Q : Option Value → cn_S → cn_I → cn_P → Prop} {pc pc' : Nat} {lv : List (Nat × Value)} {st : List Value} {mj : cn_M} {idx n a kc1 ks1 kc2 ks2 : Nat} (as : List Value) {rest : List Value} {lvj : List (Nat × Value)} (hm : cn_mi mi.1.cls idx mj n) (ha : a < S.1) (hst : st = as.reverse ++ .ref a :: rest) (hn : as.length = n) (hlv : lv_args 0 (.ref a :: as) = lvj) (hlen : (lg_sl (.ref a :: as)).length ≤ mj.2.2.1) (hr : (rest.map fun v => v.category).sum ≤ 8) (hd1 : 1 ≤ d) (hkc : kc1 + kc2 ≤ kc) (hks : ks1 + ks2 ≤ ks) (hd : decode mi.2.1 pc = .ok (.invokespecial idx, 3)) (hp : pc + 3 = pc') (K : cn_V l en mj (d - 1) kc1 ks1 S I P (fun r S' I' P' => cn_V l en mi d kc2 ks2 S' I' P' Q pc' lv (r.toList ++ rest)) 0 lvj []) : cn_V l en mi d kc ks S I P Q pc lv st := by
  subst hp; subst hst; subst hlv
  intro p e R s m args below meth c Z H locs cells slots ls C hc hs hH hS hl hk
  obtain ⟨hx, hb, hml, hr0, hown, hts, hlocks, hname, hK, hX, hbB, hBs, hdF, hdL⟩ := id C
  obtain ⟨hlink, hinst, hinit, hmo, hnp, hret⟩ := hm
  have hMet := cn_met (as := .ref a :: as) hmo hlen K
  have hA := cn_rv_ref hH ha
  have hsig : ∀ sig, parseMethodDescriptor mj.1.desc = some sig → n = sig.parameters.length := fun sig h => by
    have h2 : (parseMethodDescriptor mj.1.desc).map (fun d => d.parameters.length) = some n := hnp
    rw [h] at h2
    exact (Option.some.inj h2).symm
  have hpre := cn_pre (as := (Value.ref a :: as).map (cn_rv en)) hK hX hbB hBs hH hS
  have eargs : (Value.ref a :: as).map (cn_rv en) = Value.ref (cn_B en + a) :: as.map (cn_rv en) := by rw [List.map_cons, hA]
  have hstk : ((as.reverse ++ Value.ref a :: rest).map (cn_rv en)) = (as.map (cn_rv en)).reverse ++ Value.ref (cn_B en + a) :: rest.map (cn_rv en) := by
    rw [List.map_append, List.map_cons, hA, List.map_reverse]
  have hroom := lv_room (m := m) (pc := pc) (ls := ls) (rest := ((as.reverse ++ Value.ref a :: rest).map (cn_rv en))) (st := rest.map (cn_rv en)) (by rw [cn_cat_map]; exact hr)
  have hbl := cn_blind (en := en) (S := S) (I := I) (P := P) (as := (Value.ref a :: as).map (cn_rv en))
  rw [eargs] at hMet hpre hbl
  have hml21 := hmo.2.2.2.2
  have hco : Cond.code mj.1 mj.2.1 mj.2.2.1 none ∈ cn_W mj := by rw [← hret]; exact List.mem_cons_self
  have hcb : (Cond.code mj.1 mj.2.1 mj.2.2.1 none).before args s = true := by rw [← hret]; exact hts _ hmo.2.1
  refine cn_after (mc := kc1) (ms := ks1) (rest := rest.map (cn_rv en)) (a := (Value.ref (cn_B en + a) :: as.map (cn_rv en)).toArray) (Q := fun r S' I' P' => cn_V l en mi d kc2 ks2 S' I' P' Q (pc + 3) lv (r.toList ++ rest)) ?_ hS (fun r S' I' P' H1 locs1 hq hH1 hS1 => ?_)
  · rcases hlink with h | ⟨host, h⟩
    · exact va_runI (bytes := mj.2.1) (maxL := mj.2.2.1) (n := n) ⟨hx, hb, hml, hown, hts⟩ hMet ⟨⟨rfl, rfl, by show d - 1 + 1 ≤ _; omega, by show 8 + (mj.2.2.1 + 11) + 64 * (d - 1) ≤ _; omega, cn_words hts hmo, hco, hcb, hts _ hmo.1, hmo.2.2.1, hsig, hts _ h⟩, hinit, hts _ hinst⟩ ⟨hbl, hpre⟩ rfl (by rw [List.length_map]; exact hn) hl.1 hstk hroom hd ⟨by omega, by omega⟩
    · exact va_runIN (bytes := mj.2.1) (maxL := mj.2.2.1) (n := n) ⟨hx, hb, hml, hown, hts⟩ hMet ⟨⟨⟨rfl, rfl, by show d - 1 + 1 ≤ _; omega, by show 8 + (mj.2.2.1 + 11) + 64 * (d - 1) ≤ _; omega, cn_words hts hmo, hco⟩, hcb, hts _ hmo.1, hmo.2.2.1, hsig, va_Nw.use rfl (hK.2.1 _ h)⟩, hinit, hts _ hinst⟩ ⟨hbl, hpre⟩ rfl (by rw [List.length_map]; exact hn) hl.1 hstk hroom hd ⟨by omega, by omega⟩
  · rw [cn_ret_map]
    exact hq p e R s m args below meth c Z H1 locs1 _ _ ls C (by omega) (by omega) hH1 hS1 hl (fun r S' I' P' H' locs' c' s' q' l' a1 a2 a3 a4 a5 a6 => hk r S' I' P' H' locs' c' s' q' l' a1 a2 a3 (by omega) (by omega) a6)
theorem cn_callS {l : Launch} {en : cn_E} {mi : cn_M} {d kc ks : Nat} {S : cn_S} {I : cn_I} {P : cn_P} {Q : Option Value → cn_S → cn_I → cn_P → Prop} {pc pc' : Nat} {lv : List (Nat × Value)} {st : List Value} {mj : cn_M} {idx n kc1 ks1 kc2 ks2 : Nat} (as : List Value) {rest : List Value} {lvj : List (Nat × Value)} (hm : cn_ms mi.1.cls idx mj n) (hst : st = as.reverse ++ rest) (hn : as.length = n) (hlv : lv_args 0 as = lvj) (hlen : (lg_sl as).length ≤ mj.2.2.1) (hr : (rest.map fun v => v.category).sum ≤ 8) (hd1 : 1 ≤ d) (hkc : kc1 + kc2 ≤ kc) (hks : ks1 + ks2 ≤ ks) (hd : decode mi.2.1 pc = .ok (.invokestatic idx, 3)) (hp : pc + 3 = pc') (K : cn_V l en mj (d - 1) kc1 ks1 S I P (fun r S' I' P' => cn_V l en mi d kc2 ks2 S' I' P' Q pc' lv (r.toList ++ rest)) 0 lvj []) : cn_V l en mi d kc ks S I P Q pc lv st := by
  subst hp; subst hst; subst hlv
  intro p e R s m args below meth c Z H locs cells slots ls C hc hs hH hS hl hk
  obtain ⟨hx, hb, hml, hr0, hown, hts, hlocks, hname, hK, hX, hbB, hBs, hdF, hdL⟩ := id C
  obtain ⟨h, hstat, hmo, hnp⟩ := hm
  have hMet := cn_met (as := as) hmo hlen K
  have hsig : ∀ sig, parseMethodDescriptor mj.1.desc = some sig → n = sig.parameters.length := fun sig h => by
    have h2 : (parseMethodDescriptor mj.1.desc).map (fun d => d.parameters.length) = some n := hnp
    rw [h] at h2
    exact (Option.some.inj h2).symm
  have hpre := cn_pre (as := as.map (cn_rv en)) hK hX hbB hBs hH hS
  have hstk : ((as.reverse ++ rest).map (cn_rv en)) = (as.map (cn_rv en)).reverse ++ rest.map (cn_rv en) := by
    rw [List.map_append, List.map_reverse]
  have hroom := lv_room (m := m) (pc := pc) (ls := ls) (rest := ((as.reverse ++ rest).map (cn_rv en))) (st := rest.map (cn_rv en)) (by rw [cn_cat_map]; exact hr)
  have hml21 := hmo.2.2.2.2
  refine cn_after (mc := kc1) (ms := ks1) (rest := rest.map (cn_rv en)) (a := (as.map (cn_rv en)).toArray) (Q := fun r S' I' P' => cn_V l en mi d kc2 ks2 S' I' P' Q (pc + 3) lv (r.toList ++ rest)) ?_ hS (fun r S' I' P' H1 locs1 hq hH1 hS1 => ?_)
  · exact va_runS (bytes := mj.2.1) (maxL := mj.2.2.1) (ret := mj.2.2.2) (n := n) ⟨hx, hb, hml, hown, hts⟩ hMet ⟨⟨rfl, rfl, by show d - 1 + 1 ≤ _; omega, by show 8 + (mj.2.2.1 + 11) + 64 * (d - 1) ≤ _; omega, cn_words hts hmo, List.mem_cons_self, hts _ hmo.2.1, hts _ hmo.1, hmo.2.2.1, hsig, hts _ h⟩, hts _ hstat⟩ ⟨cn_blind, hpre⟩ rfl (by rw [List.length_map]; exact hn) hl.1 hstk hroom hd ⟨by omega, by omega⟩
  · rw [cn_ret_map]
    exact hq p e R s m args below meth c Z H1 locs1 _ _ ls C (by omega) (by omega) hH1 hS1 hl (fun r S' I' P' H' locs' c' s' q' l' a1 a2 a3 a4 a5 a6 => hk r S' I' P' H' locs' c' s' q' l' a1 a2 a3 (by omega) (by omega) a6)
theorem cn_iret {l : Launch} {en : cn_E} {mi : cn_M} {d kc ks : Nat} {S : cn_S} {I : cn_I} {P : cn_P} {Q : Option Value → cn_S → cn_I → cn_P → Prop} {pc : Nat} {lv : List (Nat × Value)} {v : Int32} (ht : mi.2.2.2 = some .int) (hd : decode mi.2.1 pc = .ok (.ireturn, 1)) (hq : Q (some (.int v)) S I P) : cn_V l en mi d kc ks S I P Q pc lv [.int v] := by
  intro p e R s m args below meth c Z H locs cells slots ls C hc hs hH hS hl hk
  exact hk (some (.int v)) S I P H locs cells slots pc ls hq hH hS (by omega) (by omega) (Or.inr (Or.inl ⟨v, rfl, hd, .int, ht, rfl⟩))
theorem cn_zret {l : Launch} {en : cn_E} {mi : cn_M} {d kc ks : Nat} {S : cn_S} {I : cn_I} {P : cn_P} {Q : Option Value → cn_S → cn_I → cn_P → Prop} {pc : Nat} {lv : List (Nat × Value)} {v : Int32} (ht : mi.2.2.2 = some .boolean) (hz : v = 0 ∨ v = 1) (hd : decode mi.2.1 pc = .ok (.ireturn, 1)) (hq : Q (some (.int v)) S I P) : cn_V l en mi d kc ks S I P Q pc lv [.int v] := by
  intro p e R s m args below meth c Z H locs cells slots ls C hc hs hH hS hl hk
  exact hk (some (.int v)) S I P H locs cells slots pc ls hq hH hS (by omega) (by omega) (Or.inr (Or.inl ⟨v, rfl, hd, .boolean, ht, by rcases hz with rfl | rfl <;> rfl⟩))
theorem cn_aret {l : Launch} {en : cn_E} {mi : cn_M} {d kc ks : Nat} {S : cn_S} {I : cn_I} {P : cn_P} {Q : Option Value → cn_S → cn_I → cn_P → Prop} {pc : Nat} {lv : List (Nat × Value)} {a : Nat} {E : String} (ht : mi.2.2.2 = some (.object E)) (hd : decode mi.2.1 pc = .ok (.areturn, 1)) (hq : Q (some (.ref a)) S I P) : cn_V l en mi d kc ks S I P Q pc lv [.ref a] := by
  intro p e R s m args below meth c Z H locs cells slots ls C hc hs hH hS hl hk
  exact hk (some (.ref a)) S I P H locs cells slots pc ls hq hH hS (by omega) (by omega) (Or.inr (Or.inr ⟨a, rfl, hd, E, ht⟩))
theorem cn_vret {l : Launch} {en : cn_E} {mi : cn_M} {d kc ks : Nat} {S : cn_S} {I : cn_I} {P : cn_P} {Q : Option Value → cn_S → cn_I → cn_P → Prop} {pc : Nat} {lv : List (Nat × Value)} (ht : mi.2.2.2 = none) (hd : decode mi.2.1 pc = .ok (.return_, 1)) (hq : Q (none) S I P) : cn_V l en mi d kc ks S I P Q pc lv [] := by
  intro p e R s m args below meth c Z H locs cells slots ls C hc hs hH hS hl hk
  exact hk (none) S I P H locs cells slots pc ls hq hH hS (by omega) (by omega) (Or.inl ⟨rfl, ht, hd⟩)
theorem cn_mmax {l : Launch} {en : cn_E} {mi : cn_M} {d kc ks : Nat} {S : cn_S} {I : cn_I} {P : cn_P} {Q : Option Value → cn_S → cn_I → cn_P → Prop} {pc pc' : Nat} {lv : List (Nat × Value)} {st : List Value} {idx : Nat} {x y : Int32} (hw : Cond.methodLink mi.1.cls idx Lib.Math.max.name ∈ cn_T) (hst : Cond.static Lib.Math.max.name ∈ cn_T) (hini : Cond.initialized "java/lang/Math" ∈ cn_T) (hco : Cond.code Lib.Math.max.name Lib.Math.max.code 2 (some .int) ∈ cn_T) (hd1 : 1 ≤ d) (hr : (st.map fun v => v.category).sum ≤ 8) (hd : decode mi.2.1 pc = .ok (.invokestatic idx, 3)) (hp : pc + 3 = pc') (K : cn_V l en mi d kc ks S I P Q pc' lv (.int (if x < y then y else x) :: st)) : cn_V l en mi d kc ks S I P Q pc lv (.int y :: .int x :: st) := by
  subst hp
  intro p e R s m args below meth c Z H locs cells slots ls C hc hs hH hS hl hk
  obtain ⟨hx, hb, hml, hr0, hown, hts, hlocks, hname, hK, hX, hbB, hBs, hdF, hdL⟩ := id C
  exact va_mmax hx hb (hml.trans hl.1.symm) hown (hts _ hw) (hts _ hst) (hts _ hini) (hts _ hco) (by omega) (by rw [cn_cat_map]; omega) (by omega) (by omega) hd (K p e R s m args below meth c Z H locs cells slots ls C hc hs hH hS hl hk)
theorem cn_mmin {l : Launch} {en : cn_E} {mi : cn_M} {d kc ks : Nat} {S : cn_S} {I : cn_I} {P : cn_P} {Q : Option Value → cn_S → cn_I → cn_P → Prop} {pc pc' : Nat} {lv : List (Nat × Value)} {st : List Value} {idx : Nat} {x y : Int32} (hw : Cond.methodLink mi.1.cls idx Lib.Math.min.name ∈ cn_T) (hst : Cond.static Lib.Math.min.name ∈ cn_T) (hini : Cond.initialized "java/lang/Math" ∈ cn_T) (hco : Cond.code Lib.Math.min.name Lib.Math.min.code 2 (some .int) ∈ cn_T) (hd1 : 1 ≤ d) (hr : (st.map fun v => v.category).sum ≤ 8) (hd : decode mi.2.1 pc = .ok (.invokestatic idx, 3)) (hp : pc + 3 = pc') (K : cn_V l en mi d kc ks S I P Q pc' lv (.int (if y < x then y else x) :: st)) : cn_V l en mi d kc ks S I P Q pc lv (.int y :: .int x :: st) := by
  subst hp
  intro p e R s m args below meth c Z H locs cells slots ls C hc hs hH hS hl hk
  obtain ⟨hx, hb, hml, hr0, hown, hts, hlocks, hname, hK, hX, hbB, hBs, hdF, hdL⟩ := id C
  exact va_mmin hx hb (hml.trans hl.1.symm) hown (hts _ hw) (hts _ hst) (hts _ hini) (hts _ hco) (by omega) (by rw [cn_cat_map]; omega) (by omega) (by omega) hd (K p e R s m args below meth c Z H locs cells slots ls C hc hs hH hS hl hk)
end
section
theorem cn_bok_r {S : cn_S} {I : cn_I} {a : Nat} {f : Nat → Int32} (h : cn_bok S I) (hv : ∀ j, fits .byte (.int (f j)) = true) : cn_bok S (cn_wr I a f) := by
  intro b n hb j
  by_cases hne : b = a
  · subst hne
    rw [cn_wr_row]
    exact hv j
  · rw [cn_wr_ne hne]
    exact h b n hb j
theorem cn_copy {l : Launch} {en : cn_E} {mi : cn_M} {d kc ks : Nat} {S : cn_S} {I : cn_I} {P : cn_P} {Q : Option Value → cn_S → cn_I → cn_P → Prop} {pc pc' : Nat} {lv : List (Nat × Value)} {st : List Value} {idx a0 a1 n0 n1 sp dp n : Nat} (hw : Cond.methodLink mi.1.cls idx arraycopyName ∈ cn_T) (hnat : Cond.native arraycopyName ∈ cn_T) (hstat : Cond.static arraycopyName ∈ cn_T) (hini : Cond.initialized "java/lang/System" ∈ cn_T) (hA0 : cn_ar S a0 1 n0) (hA1 : cn_ar S a1 1 n1) (h4 : sp + n ≤ n0) (h5 : dp + n ≤ n1) (hn0 : n0 < 2 ^ 31) (hn1 : n1 < 2 ^ 31) (hd1 : 1 ≤ d) (hr : (st.map fun v => v.category).sum ≤ 8) (hd : decode mi.2.1 pc = .ok (.invokestatic idx, 3)) (hp : pc + 3 = pc') (K : cn_V l en mi d kc ks S (cn_wr I a1 (va_cpy (I a0) (I a1) sp dp n)) P Q pc' lv st) : cn_V l en mi d kc ks S I P Q pc lv (.int (nI n) :: .int (nI dp) :: .ref a1 :: .int (nI sp) :: .ref a0 :: st) := by
  subst hp
  intro p e R s m args below meth c Z H locs cells slots ls C hc hs hH hS hl hk
  obtain ⟨hx, hb, hml, hr0, hown, hts, hlocks, hname, hK, hX, hbB, hBs, hdF, hdL⟩ := id C
  have c1 : (nI n).toNatClampNeg = n := nI_clamp (by omega)
  have c2 : (nI sp).toNatClampNeg = sp := nI_clamp (by omega)
  have c3 : (nI dp).toNatClampNeg = dp := nI_clamp (by omega)
  have t1 : (nI n).toInt = (n : Int) := nI_toInt (by omega)
  have t2 : (nI sp).toInt = (sp : Int) := nI_toInt (by omega)
  have t3 : (nI dp).toInt = (dp : Int) := nI_toInt (by omega)
  show W p l e R s m args below meth c H locs cells slots Z (F0 m pc ls (.int (nI n) :: .int (nI dp) :: cn_rv en (.ref a1) :: .int (nI sp) :: cn_rv en (.ref a0) :: st.map (cn_rv en)))
  rw [cn_rv_ref hH hA0.1, cn_rv_ref hH hA1.1]
  have ha0 : (cn_ws en S I P)[a0]? = some (cn_B en + a0, .inl (cn_dA en 1, n0, .inl (I a0))) := by rw [cn_ws_at hA0.1, cn_ar_cell hA0 (by decide)]
  have ha1 : (cn_ws en S I P)[a1]? = some (cn_B en + a1, .inl (cn_dA en 1, n1, .inl (I a1))) := by rw [cn_ws_at hA1.1, cn_ar_cell hA1 (by decide)]
  have hc0 : H[cn_B en + a0]? = some (vp_cell (cn_dA en 1) (n0, .inl (I a0))) := hH.1 a0 _ ha0
  have hc1 : H[cn_B en + a1]? = some (vp_cell (cn_dA en 1) (n1, .inl (I a1))) := hH.1 a1 _ ha1
  have hty : (cn_tys en)[1]? = some (cn_dA en 1, .byte) := cn_tys_at (by decide)
  have hbyte : ∀ j, fits .byte (.int (va_cpy (I a0) (I a1) sp dp n j)) = true := by
    intro j
    unfold va_cpy
    split
    · exact hH.2.2.1 a0 n0 hA0.2 _
    · exact hH.2.2.1 a1 n1 hA1.2 _
  intro T hT X
  obtain ⟨-, k0, hk0, cm0, hkk0⟩ := (hK.1.2 1 _ hty).1 n0 (fun j => .int (I a0 j))
  obtain ⟨-, k1, hk1, cm1, hkk1⟩ := (hK.1.2 1 _ hty).1 n1 (fun j => .int (I a1 j))
  obtain ⟨vm', X', step⟩ := X.arraycopy hx hown (hts _ hw) (hts _ hnat) (hts _ hstat) (hts _ hini) (src := cn_B en + a0) (dst := cn_B en + a1) (cs := vp_cell (cn_dA en 1) (n0, .inl (I a0))) (cd := vp_cell (cn_dA en 1) (n1, .inl (I a1))) (srcPos := nI sp) (destPos := nI dp) (n := nI n) (by rw [hT]; exact hc0) (by rw [hT]; exact hc1)
    (fun _ h => by cases h) (fun _ h => by cases h) (fun h => by cases h) (fun h => by cases h) hk0 hk1 hkk0 hkk1 (by simp [refKind]) (nI_pos (by omega)) (nI_pos (by omega)) (nI_pos (by omega))
    (by rw [t2, t1]; show ¬ _ > ((arrV (cn_dA en 1) n0 (fun j => .int (I a0 j))).slots.size : Int); rw [arrV_size]; omega)
    (by rw [t3, t1]; show ¬ _ > ((arrV (cn_dA en 1) n1 (fun j => .int (I a1 j))).slots.size : Int); rw [arrV_size]; omega)
    (fun vm₁ _ i hi => by
      rw [c1] at hi
      have e : (vp_cell (cn_dA en 1) (n0, .inl (I a0))).slots.getD ((nI sp).toNatClampNeg + i) .null = .int (I a0 (sp + i)) := by
        show (arrV (cn_dA en 1) n0 (fun j => .int (I a0 j))).slots.getD _ _ = _
        rw [c2, Array.getD_eq_getD_getElem?, arrV_read _ _ (by omega)]
        rfl
      refine ⟨?_, ?_⟩
      · rw [e]
        exact hH.2.2.1 a0 n0 hA0.2 _
      · rw [e]
        exact trivial)
    (g := F0 m pc ls (.int (nI n) :: .int (nI dp) :: .ref (cn_B en + a1) :: .int (nI sp) :: .ref (cn_B en + a0) :: st.map (cn_rv en))) rfl (by rw [hml]; exact hl.1) (rest := st.map (cn_rv en)) rfl (by rw [hb]; exact hd) (by omega) (by
      have h9 : ((st.map (cn_rv en)).map fun v => v.category).sum ≤ 8 := by rw [cn_cat_map]; exact hr
      have h8 : nativeFrameWords "java/lang/System" "arraycopy" 5 + 11 ≤ 40 := by decide +kernel
      show 2 * 0 + _ + _ ≤ _
      omega)
  have e1 : copied (vp_cell (cn_dA en 1) (n0, .inl (I a0))) (vp_cell (cn_dA en 1) (n1, .inl (I a1))) (nI sp) (nI dp) (nI n) = vp_cell (cn_dA en 1) (n1, .inl (va_cpy (I a0) (I a1) sp dp n)) := by
    have h := va_copied (sp := sp) (dp := dp) (n := n) (fun z => Value.int z) (cn_dA en 1) (cn_dA en 1) (n0 := n0) (n1 := n1) (I a0) (I a1) h4
    unfold copied
    rw [c1, c2, c3]
    exact h
  rw [e1] at X' step
  have hlt : cn_B en + a1 < H.size := (Array.getElem?_eq_some_iff.mp hc1).1
  have hheap : ((T.setVm vm').setCell (cn_B en + a1) (vp_cell (cn_dA en 1) (n1, .inl (va_cpy (I a0) (I a1) sp dp n)))).heap = H.setIfInBounds (cn_B en + a1) (vp_cell (cn_dA en 1) (n1, .inl (va_cpy (I a0) (I a1) sp dp n))) := by rw [← hT]; rfl
  have oq : ∀ q : Nat, q ≠ cn_B en + a1 → (H.setIfInBounds (cn_B en + a1) (vp_cell (cn_dA en 1) (n1, .inl (va_cpy (I a0) (I a1) sp dp n))))[q]? = H[q]? := fun q hq => by simp [Array.getElem?_setIfInBounds, Ne.symm hq]
  have z1 : (H.setIfInBounds (cn_B en + a1) (vp_cell (cn_dA en 1) (n1, .inl (va_cpy (I a0) (I a1) sp dp n)))).size = H.size := by simp
  have hH1 : cn_H en S (cn_wr I a1 (va_cpy (I a0) (I a1) sp dp n)) P (H.setIfInBounds (cn_B en + a1) (vp_cell (cn_dA en 1) (n1, .inl (va_cpy (I a0) (I a1) sp dp n)))) := by
    refine cn_H.set hH hA1.1 ?_ z1 oq (fun b hb => cn_wr_ne hb) (fun _ _ => rfl) (cn_bok_r hH.2.2.1 hbyte)
    rw [cn_ar_cell hA1 (by decide), cn_wr_row]
    show (H.setIfInBounds _ _)[cn_B en + a1]? = some _
    simp [Array.getElem?_setIfInBounds, hlt]
  obtain ⟨t, a1', b1⟩ := K p e R s m args below meth c Z _ _ cells slots ls C hc hs hH1 ⟨by rw [z1]; exact hS.1, fun q g1 g2 => by
      rw [oq q (fun e => g2 (by rw [e]; exact Nat.le_add_right _ _))]
      exact hS.2.1 q g1 g2, fun q hq => by
      rcases List.mem_append.mp hq with h | h
      · exact hS.2.2 q h
      · obtain ⟨z, -, hz⟩ := List.mem_map.mp h
        rw [← hz]
        exact Nat.le_add_right _ _⟩ hl hk _ hheap X'
  exact ⟨t, step t a1', b1⟩
end
section
/-! THE CLAIM OUT OF ONE WALK OF THE LAW'S BODY. Your part is whole_start (and what it stands on); all else here is the same for every law, but numbers. -/
def R_law : String := "ChunkedNodesLaw"
def lw_P (b : Addr) (xs : List Int32) (args : Array Value) (s : State) : Prop := args = #[.ref b] ∧ s.IntsAt b xs ∧ xs.length ≤ 3584 ∧ (Jvm.Cond.and given_1 narrow_1).before args s = true
def lw_Q (_ : Array Value) (s : State) (o : Outcome) (t : State) : Prop := o = .returned (some (.int 1)) ∧ Framed s o t [] 600000 7302250
def lw_Z (below : List Frame) (a : Array Value) (s : State) : State → Prop := fun t => ∃ o, t.status = .running ∧ Ended t below o ∧ lw_Q a s o t
/-- the law's own end, with 1 on the stack, nothing written that was there before, its room as the claim has it -/
theorem lw_ret {p : Program} {l : Launch} {e : Env} {s : State} {m : MethodId} {below : List Frame} {meth : Method} {c : Code} {b : Nat} (hx : p.tables.exec = Jvm.exec) (hb : c.code = code) (hr : meth.sig.returnType = ret) (hlocks : meth.locks = false) {pc : Nat} {H : Heap} {ls : Array Slot} (hdg : decode code pc = .ok (.ireturn, 1)) : W p l e room_1 s m #[Value.ref b] below meth c H [] 600000 7302250 (lw_Z below #[Value.ref b] s) (F0 m pc ls [.int 1]) := by
  intro T hT X
  obtain ⟨fs, hret, hrun, hended, hW, hframe⟩ := X.leave (v := some (.int 1)) (hlocks := hlocks) (fun h => by rw [hr] at h; cases h)
  have hmeth' : T.vm.method? m = some meth := X.method'
  refine ⟨T.setFrames fs, ?_, .returned (some (.int 1)), hrun, hended, rfl, ⟨_, rfl⟩, hW, hframe⟩
  jvm_step X.here [X.here.top, hx, hb, hdg, hmeth', hr, ret, narrow_b1]
  (try refine ⟨rfl, ?_⟩); (try refine ⟨rfl, ?_⟩)
  first | (intro acts; rw [hret _ acts rfl rfl rfl]) | rw [hret _ _ rfl rfl rfl]
  exact Steps.refl _
/-- what holds at the law's entry: the machine, the code, the tables' words (any of lw_tbl by 'hts w (by decide +kernel)'), the script of L ints xs at the cell b, what the Statement gives of the start (any of its parts by flat_of_before) -/
def lw_At (p : Program) (s : State) (m : MethodId) (meth : Method) (c : Code) (b L : Nat) (xs : Nat → Int32) : Prop :=
  p.tables.exec = Jvm.exec ∧ c.code = code ∧ meth.sig.returnType = ret ∧ c.maxLocals = 4 ∧ s.vm.findClass R_law = some m.cls ∧ (∀ w ∈ lw_tbl, w.before #[Value.ref b] s = true) ∧ va_X b L xs s s.heap ∧ b < s.heap.size ∧ meth.locks = false ∧ (Jvm.Cond.and given_1 narrow_1).before #[Value.ref b] s = true
def cn_Law (l : Launch) : Prop := ∀ en : cn_E, cn_L en ≤ 3584 → cn_V l en mi_L_law 100 600000 7302250 (0, 0, fun _ => .inl 0) (fun _ _ => 0) (fun _ _ => none) (fun r _ _ _ => r = some (.int 1)) 0 [(0, .ref 1000000)] []
theorem cn_arr {s : State} {cA comp : ClassId} {kA : Class} {ty : FieldType} (h2 : s.vm.classes[cA]? = some kA) (h3 : kA.kind = .array comp ty) : ArrOfT s cA ty := fun _ _ => ⟨fun _ h => (by cases h), kA, h2, comp, h3⟩
theorem cn_arrP {s : State} {args : Array Value} {ty : FieldType} (h : (Cond.arrayClass ty).before args s = true) (hp : ∀ cA : ClassId, s.vm.findClass ("[" ++ ty.toString) = some cA → va_RA s cA ty) : ∃ cA : ClassId, ArrOfT s cA ty ∧ va_RA s cA ty := by
  obtain ⟨cA, kA, comp, h1, h2, h3⟩ := Cond.arrayClass_spec h
  exact ⟨cA, cn_arr h2 h3, hp cA h1⟩
theorem cn_arrQ {s : State} {args : Array Value} {E : String} (h : (Cond.arrayOver (.object E)).before args s = true) : ∃ cA : ClassId, ArrOfT s cA (.object E) ∧ va_RA s cA (.object E) := by
  obtain ⟨comp, cA, kA, h1, -, h3, h4, h5⟩ := Cond.arrayOver_spec h
  exact ⟨cA, cn_arr h3 h4, kA, comp, h3, h4, h1, h5⟩
theorem cn_K0 {s : State} {b : Nat} (hts : ∀ w ∈ lw_tbl, w.before #[Value.ref b] s = true) : ∃ (dC : Nat → ClassId) (dI : Nat → Nat → Nat) (dA : Nat → ClassId), ∀ (B L : Nat) (xs : Nat → Int32), cn_K (b, B, L, xs, dC, dI, dA) s := by
  have hT : ∀ w ∈ cn_T, w.before #[Value.ref b] s = true := fun w h => hts w (List.mem_filter.mp h).1
  obtain ⟨c0, i0, h0⟩ := u_known (C := cn_RBy) (T := cn_TBy) (N := 2) (n := 2) hT cn_lays_By (hts (.instantiable cn_RBy 2) (List.mem_of_getElem? (i := 96) (by decide +kernel)))
  obtain ⟨c1, i1, h1⟩ := u_known (C := cn_RCh) (T := cn_TCh) (N := 7) (n := 7) hT cn_lays_Ch (hts (.instantiable cn_RCh 7) (List.mem_of_getElem? (i := 136) (by decide +kernel)))
  obtain ⟨c2, i2, h2⟩ := u_known (C := cn_RIt) (T := cn_TIt) (N := 5) (n := 5) hT cn_lays_It (hts (.instantiable cn_RIt 5) (List.mem_of_getElem? (i := 209) (by decide +kernel)))
  obtain ⟨c3, i3, h3⟩ := u_known (C := cn_RMe) (T := cn_TMe) (N := 3) (n := 3) hT cn_lays_Me (hts (.instantiable cn_RMe 3) (List.mem_of_getElem? (i := 142) (by decide +kernel)))
  obtain ⟨c4, i4, h4⟩ := u_known (C := cn_RNo) (T := cn_TNo) (N := 3) (n := 3) hT cn_lays_No (hts (.instantiable cn_RNo 3) (List.mem_of_getElem? (i := 188) (by decide +kernel)))
  obtain ⟨c5, i5, h5⟩ := u_known (C := cn_RNt) (T := cn_TNt) (N := 2) (n := 2) hT cn_lays_Nt (hts (.instantiable cn_RNt 2) (List.mem_of_getElem? (i := 216) (by decide +kernel)))
  obtain ⟨c6, i6, h6⟩ := u_known (C := cn_RPa) (T := cn_TPa) (N := 2) (n := 2) hT cn_lays_Pa (hts (.instantiable cn_RPa 2) (List.mem_of_getElem? (i := 90) (by decide +kernel)))
  obtain ⟨c7, i7, h7⟩ := u_known (C := cn_RSf) (T := cn_TSf) (N := 3) (n := 3) hT cn_lays_Sf (hts (.instantiable cn_RSf 3) (List.mem_of_getElem? (i := 83) (by decide +kernel)))
  obtain ⟨c8, i8, h8⟩ := u_known (C := cn_RX) (T := cn_TX) (N := 10) (n := 10) hT cn_lays_X (hts (.instantiable cn_RX 10) (List.mem_of_getElem? (i := 71) (by decide +kernel)))
  obtain ⟨c9, i9, h9⟩ := u_known (C := cn_RM) (T := cn_TM) (N := 37) (n := 37) hT cn_lays_M (hts (.instantiable cn_RM 37) (List.mem_of_getElem? (i := 566) (by decide +kernel)))
  obtain ⟨a0, g0, r0⟩ := cn_arrP (ty := .int) (hts (.arrayClass .int) (List.mem_of_getElem? (i := 208) (by decide +kernel))) (fun _ h => h)
  obtain ⟨a1, g1, r1⟩ := cn_arrP (ty := .byte) (hts (.arrayClass .byte) (List.mem_of_getElem? (i := 112) (by decide +kernel))) (fun _ h => h)
  obtain ⟨a2, g2, r2⟩ := cn_arrP (ty := .boolean) (hts (.arrayClass .boolean) (List.mem_of_getElem? (i := 683) (by decide +kernel))) (fun _ h => h)
  obtain ⟨a3, g3, r3⟩ := cn_arrQ (E := "ChunkedNodes$Node") (hts (.arrayOver (.object "ChunkedNodes$Node")) (List.mem_of_getElem? (i := 79) (by decide +kernel)))
  obtain ⟨a4, g4, r4⟩ := cn_arrQ (E := "ChunkedNodes$Item") (hts (.arrayOver (.object "ChunkedNodes$Item")) (List.mem_of_getElem? (i := 81) (by decide +kernel)))
  obtain ⟨a5, g5, r5⟩ := cn_arrQ (E := "ChunkedNodes$Notice") (hts (.arrayOver (.object "ChunkedNodes$Notice")) (List.mem_of_getElem? (i := 215) (by decide +kernel)))
  obtain ⟨a6, g6, r6⟩ := cn_arrQ (E := "ChunkedNodes$Parcel") (hts (.arrayOver (.object "ChunkedNodes$Parcel")) (List.mem_of_getElem? (i := 89) (by decide +kernel)))
  refine ⟨fun k => if k = 0 then c0 else if k = 1 then c1 else if k = 2 then c2 else if k = 3 then c3 else if k = 4 then c4 else if k = 5 then c5 else if k = 6 then c6 else if k = 7 then c7 else if k = 8 then c8 else c9, fun k => if k = 0 then i0 else if k = 1 then i1 else if k = 2 then i2 else if k = 3 then i3 else if k = 4 then i4 else if k = 5 then i5 else if k = 6 then i6 else if k = 7 then i7 else if k = 8 then i8 else i9, fun k => if k = 0 then a0 else if k = 1 then a1 else if k = 2 then a2 else if k = 3 then a3 else if k = 4 then a4 else if k = 5 then a5 else a6, fun B L xs => ⟨⟨?_, ?_⟩, ?_, ?_⟩⟩
  · intro k q hq
    match k, hq with
    | 0, hq => cases hq; exact h0
    | 1, hq => cases hq; exact h1
    | 2, hq => cases hq; exact h2
    | 3, hq => cases hq; exact h3
    | 4, hq => cases hq; exact h4
    | 5, hq => cases hq; exact h5
    | 6, hq => cases hq; exact h6
    | 7, hq => cases hq; exact h7
    | 8, hq => cases hq; exact h8
    | 9, hq => cases hq; exact h9
    | k + 10, hq => simp [cn_cl] at hq
  · intro k q hq
    have hk : k < 7 := by
      have h1 := (List.getElem?_eq_some_iff.mp hq).1
      simpa [cn_tys] using h1
    rw [cn_tys_at hk] at hq
    match k, hk, hq with
    | 0, _, hq => cases hq; exact ⟨g0, r0⟩
    | 1, _, hq => cases hq; exact ⟨g1, r1⟩
    | 2, _, hq => cases hq; exact ⟨g2, r2⟩
    | 3, _, hq => cases hq; exact ⟨g3, r3⟩
    | 4, _, hq => cases hq; exact ⟨g4, r4⟩
    | 5, _, hq => cases hq; exact ⟨g5, r5⟩
    | 6, _, hq => cases hq; exact ⟨g6, r6⟩
    | k + 7, hk, _ => exact absurd hk (by omega)
  · intro w hw
    have h1 := hts w (List.mem_filter.mp hw).1
    have h2 := (List.mem_filter.mp hw).2
    cases w <;> first | exact va_Nw.of rfl h1 | cases h2
  · intro C hC
    have key : ∀ E ∈ cn_O, Cond.arrayOver (.object E) ∈ lw_tbl := by
      intro E hE
      simp only [cn_O, List.mem_cons, List.not_mem_nil, or_false] at hE
      rcases hE with rfl | rfl | rfl | rfl
      · exact (List.mem_of_getElem? (i := 79) (by decide +kernel))
      · exact (List.mem_of_getElem? (i := 81) (by decide +kernel))
      · exact (List.mem_of_getElem? (i := 215) (by decide +kernel))
      · exact (List.mem_of_getElem? (i := 89) (by decide +kernel))
    exact va_AO.of (hts _ (key C hC))
theorem cn_start {p : Program} {e : Env} {s : State} {m : MethodId} {below : List Frame} {meth : Method} {c : Code} (l : Launch) (hV : cn_Law l) {b L : Nat} {xs : Nat → Int32} (hL : L ≤ 3584) (C0 : lw_At p s m meth c b L xs) : W p l e room_1 s m #[Value.ref b] below meth c s.heap [] 0 0 (lw_Z below #[Value.ref b] s) (entryFrame m ([Value.ref b] : List Value).toArray 4) := by
  obtain ⟨hx, hb, hr, hml, hown, hts, hX, hbl, hlocks, -⟩ := C0
  have hT : ∀ w ∈ cn_T, w.before #[Value.ref b] s = true := fun w h => hts w (List.mem_filter.mp h).1
  obtain ⟨dC, dI, dA, hK⟩ := cn_K0 hts
  have hl := lv_entry ([.ref b]) (n := 4) (Nat.le_of_ble_eq_true rfl)
  rw [lg_entry_eq]
  generalize (lg_sl ([.ref b]) ++ List.replicate (4 - (lg_sl ([.ref b])).length) Slot.unset).toArray = ls at hl ⊢
  have hl : lv_has ls 4 [(0, .ref b)] := hl
  have h1 := hV (b, s.heap.size, L, xs, dC, dI, dA) hL p e room_1 s m #[Value.ref b] below meth c (lw_Z below #[Value.ref b] s) s.heap [] 0 0 ls ⟨hx, hb, hml, hr, hown, hT, hlocks, fun h => absurd h (by decide), hK _ _ _, hX, hbl, Nat.le_refl _, by decide, by decide⟩ (by decide) (by decide)
    ⟨fun k q h => by obtain ⟨h1, -⟩ := cn_ws_inv h; exact absurd h1 (Nat.not_lt_zero k), rfl, fun a n h => (by cases h), by decide⟩ va_S.rf (by have e : cn_lv (b, s.heap.size, L, xs, dC, dI, dA) [(0, .ref 1000000)] = [(0, .ref b)] := (by simp [cn_lv, cn_rv, cn_ad]); rw [e]; exact hl) ?_
  · exact h1
  · intro r S' I' P' H' locs' cells' slots' pc' ls' hq hH' hS' hc' hs' hret
    subst hq
    refine va_forget (fun q h => hS'.2.2 q h) ?_
    refine W.widen (k := 600000) (n := 7302250) (by omega) (by omega) ?_
    rcases hret with ⟨h, -⟩ | ⟨v, hv, e2, -⟩ | ⟨a, h, -⟩
    · cases h
    · cases hv
      exact lw_ret hx hb hr hlocks e2
    · cases h
end
section
theorem k_b_6 : (Int8.ofInt 6).toInt32 = nI 6 := by decide +kernel
theorem k_b_7 : (Int8.ofInt 7).toInt32 = nI 7 := by decide +kernel
theorem k_b_8 : (Int8.ofInt 8).toInt32 = nI 8 := by decide +kernel
theorem k_b_9 : (Int8.ofInt 9).toInt32 = nI 9 := by decide +kernel
theorem k_b_12 : (Int8.ofInt 12).toInt32 = nI 12 := by decide +kernel
theorem k_b_15 : (Int8.ofInt 15).toInt32 = nI 15 := by decide +kernel
theorem k_b_16 : (Int8.ofInt 16).toInt32 = nI 16 := by decide +kernel
theorem k_b_24 : (Int8.ofInt 24).toInt32 = nI 24 := by decide +kernel
theorem k_b_32 : (Int8.ofInt 32).toInt32 = nI 32 := by decide +kernel
theorem k_b_61 : (Int8.ofInt 61).toInt32 = nI 61 := by decide +kernel
theorem k_b_64 : (Int8.ofInt 64).toInt32 = nI 64 := by decide +kernel
theorem k_c_m1 : Int32.ofInt (-1) = (-1) := by decide +kernel
theorem k_c_0 : Int32.ofInt 0 = nI 0 := by decide +kernel
theorem k_c_1 : Int32.ofInt 1 = nI 1 := by decide +kernel
theorem k_c_2 : Int32.ofInt 2 = nI 2 := by decide +kernel
theorem k_c_3 : Int32.ofInt 3 = nI 3 := by decide +kernel
theorem k_c_4 : Int32.ofInt 4 = nI 4 := by decide +kernel
theorem k_c_5 : Int32.ofInt 5 = nI 5 := by decide +kernel
theorem k_s_152 : (Int16.ofInt 152).toInt32 = nI 152 := by decide +kernel
theorem k_s_194 : (Int16.ofInt 194).toInt32 = nI 194 := by decide +kernel
theorem k_s_195 : (Int16.ofInt 195).toInt32 = nI 195 := by decide +kernel
theorem k_s_200 : (Int16.ofInt 200).toInt32 = nI 200 := by decide +kernel
theorem k_s_255 : (Int16.ofInt 255).toInt32 = nI 255 := by decide +kernel
theorem k_s_256 : (Int16.ofInt 256).toInt32 = nI 256 := by decide +kernel
theorem k_s_600 : (Int16.ofInt 600).toInt32 = nI 600 := by decide +kernel
theorem k_s_1000 : (Int16.ofInt 1000).toInt32 = nI 1000 := by decide +kernel
theorem k_s_1024 : (Int16.ofInt 1024).toInt32 = nI 1024 := by decide +kernel
theorem k_s_1536 : (Int16.ofInt 1536).toInt32 = nI 1536 := by decide +kernel
theorem cn_getIv {l : Launch} {en : cn_E} {mi : cn_M} {d kc ks : Nat} {S : cn_S} {I : cn_I} {P : cn_P} {Q : Option Value → cn_S → cn_I → cn_P → Prop} {pc pc' : Nat} {lv : List (Nat × Value)} {st : List Value} {a ci k idx : Nat} {v : Int32} (hv : I a k = v) (hf : cn_fl mi.1.cls idx ci k) (ho : cn_ob S a ci) (hr : cn_isr (cn_ft ci k) = false) (hd : decode mi.2.1 pc = .ok (.getfield idx, 3)) (hp : pc + 3 = pc') (K : cn_V l en mi d kc ks S I P Q pc' lv (.int v :: st)) : cn_V l en mi d kc ks S I P Q pc lv (.ref a :: st) := cn_getI hf ho hr hd hp (by rw [hv]; exact K)
theorem cn_ialdv {l : Launch} {en : cn_E} {mi : cn_M} {d kc ks : Nat} {S : cn_S} {I : cn_I} {P : cn_P} {Q : Option Value → cn_S → cn_I → cn_P → Prop} {pc pc' : Nat} {lv : List (Nat × Value)} {st : List Value} {a n j : Nat} {v : Int32} (hv : I a j = v) (hA : cn_ar S a 0 n) (hj : j < n) (hn : n < 2 ^ 31) (hd : decode mi.2.1 pc = .ok (.iaload, 1)) (hp : pc + 1 = pc') (K : cn_V l en mi d kc ks S I P Q pc' lv (.int v :: st)) : cn_V l en mi d kc ks S I P Q pc lv (.int (nI j) :: .ref a :: st) := cn_iald hA hj hn hd hp (by rw [hv]; exact K)
theorem cn_baldv {l : Launch} {en : cn_E} {mi : cn_M} {d kc ks : Nat} {S : cn_S} {I : cn_I} {P : cn_P} {Q : Option Value → cn_S → cn_I → cn_P → Prop} {pc pc' : Nat} {lv : List (Nat × Value)} {st : List Value} {a n j : Nat} {v : Int32} (hv : I a j = v) (hA : cn_ar S a 1 n) (hj : j < n) (hn : n < 2 ^ 31) (hd : decode mi.2.1 pc = .ok (.baload, 1)) (hp : pc + 1 = pc') (K : cn_V l en mi d kc ks S I P Q pc' lv (.int v :: st)) : cn_V l en mi d kc ks S I P Q pc lv (.int (nI j) :: .ref a :: st) := cn_bald hA hj hn hd hp (by rw [hv]; exact K)
theorem cn_zaldv {l : Launch} {en : cn_E} {mi : cn_M} {d kc ks : Nat} {S : cn_S} {I : cn_I} {P : cn_P} {Q : Option Value → cn_S → cn_I → cn_P → Prop} {pc pc' : Nat} {lv : List (Nat × Value)} {st : List Value} {a n j : Nat} {v : Int32} (hv : I a j = v) (hA : cn_ar S a 2 n) (hj : j < n) (hn : n < 2 ^ 31) (hd : decode mi.2.1 pc = .ok (.baload, 1)) (hp : pc + 1 = pc') (K : cn_V l en mi d kc ks S I P Q pc' lv (.int v :: st)) : cn_V l en mi d kc ks S I P Q pc lv (.int (nI j) :: .ref a :: st) := cn_zald hA hj hn hd hp (by rw [hv]; exact K)
theorem cn_iadd_n {l : Launch} {en : cn_E} {mi : cn_M} {d kc ks : Nat} {S : cn_S} {I : cn_I} {P : cn_P} {Q : Option Value → cn_S → cn_I → cn_P → Prop} {pc pc' : Nat} {lv : List (Nat × Value)} {st : List Value} {x y : Nat} (hd : decode mi.2.1 pc = .ok (.iadd, 1)) (hp : pc + 1 = pc') (K : cn_V l en mi d kc ks S I P Q pc' lv (.int (nI (x + y)) :: st)) : cn_V l en mi d kc ks S I P Q pc lv (.int (nI y) :: .int (nI x) :: st) := cn_iadd hd hp (by rw [nI_add]; exact K)
theorem cn_imul_n {l : Launch} {en : cn_E} {mi : cn_M} {d kc ks : Nat} {S : cn_S} {I : cn_I} {P : cn_P} {Q : Option Value → cn_S → cn_I → cn_P → Prop} {pc pc' : Nat} {lv : List (Nat × Value)} {st : List Value} {x y : Nat} (hd : decode mi.2.1 pc = .ok (.imul, 1)) (hp : pc + 1 = pc') (K : cn_V l en mi d kc ks S I P Q pc' lv (.int (nI (x * y)) :: st)) : cn_V l en mi d kc ks S I P Q pc lv (.int (nI y) :: .int (nI x) :: st) := cn_imul hd hp (by rw [pk_mul]; exact K)
theorem cn_isub_n {l : Launch} {en : cn_E} {mi : cn_M} {d kc ks : Nat} {S : cn_S} {I : cn_I} {P : cn_P} {Q : Option Value → cn_S → cn_I → cn_P → Prop} {pc pc' : Nat} {lv : List (Nat × Value)} {st : List Value} {x y : Nat} (h : y ≤ x) (hd : decode mi.2.1 pc = .ok (.isub, 1)) (hp : pc + 1 = pc') (K : cn_V l en mi d kc ks S I P Q pc' lv (.int (nI (x - y)) :: st)) : cn_V l en mi d kc ks S I P Q pc lv (.int (nI y) :: .int (nI x) :: st) := cn_isub hd hp (by rw [pk_sub h]; exact K)
theorem cn_iinc_n {l : Launch} {en : cn_E} {mi : cn_M} {d kc ks : Nat} {S : cn_S} {I : cn_I} {P : cn_P} {Q : Option Value → cn_S → cn_I → cn_P → Prop} {pc pc' : Nat} {lv : List (Nat × Value)} {st : List Value} {lv' : List (Nat × Value)} {i k x : Nat} (pk : List Nat) (hk0 : lv[k]? = some (i, .int (nI x))) (hn : i < mi.2.2.1) (hlv : cn_st i (.int (nI (x + 1))) lv pk = lv') (hd : decode mi.2.1 pc = .ok (.iinc i 1, 3)) (hp : pc + 3 = pc') (K : cn_V l en mi d kc ks S I P Q pc' lv' st) : cn_V l en mi d kc ks S I P Q pc lv st := cn_iinc pk hk0 (show nI x + Int32.ofInt 1 = nI (x + 1) from nI_1 x) hn hlv hd hp K
theorem cn_idec_n {l : Launch} {en : cn_E} {mi : cn_M} {d kc ks : Nat} {S : cn_S} {I : cn_I} {P : cn_P} {Q : Option Value → cn_S → cn_I → cn_P → Prop} {pc pc' : Nat} {lv : List (Nat × Value)} {st : List Value} {lv' : List (Nat × Value)} {i k x : Nat} (pk : List Nat) (hk0 : lv[k]? = some (i, .int (nI (x + 1)))) (hn : i < mi.2.2.1) (hlv : cn_st i (.int (nI x)) lv pk = lv') (hd : decode mi.2.1 pc = .ok (.iinc i (-1), 3)) (hp : pc + 3 = pc') (K : cn_V l en mi d kc ks S I P Q pc' lv' st) : cn_V l en mi d kc ks S I P Q pc lv st := cn_iinc pk hk0 (show nI (x + 1) + Int32.ofInt (-1) = nI x from pk_m1 x) hn hlv hd hp K
theorem cn_icmp_eq_n {l : Launch} {en : cn_E} {mi : cn_M} {d kc ks : Nat} {S : cn_S} {I : cn_I} {P : cn_P} {Q : Option Value → cn_S → cn_I → cn_P → Prop} {pc pc' : Nat} {lv : List (Nat × Value)} {st : List Value} {a b : Nat} {off : Int} {tgt : Nat} (ha : a < 2 ^ 31) (hb : b < 2 ^ 31) (hd : decode mi.2.1 pc = .ok (.if_icmp .eq off, 3)) (ht : (pc : Int) + off = (tgt : Int)) (hp : pc + 3 = pc') (kt : a = b → cn_V l en mi d kc ks S I P Q tgt lv st) (kf : ¬ a = b → cn_V l en mi d kc ks S I P Q pc' lv st) : cn_V l en mi d kc ks S I P Q pc lv (.int (nI b) :: .int (nI a) :: st) := cn_icmp_eq hd ht hp (fun h => kt (by first | exact h | (simpa [nI_eq ha hb, nI_eq hb ha, nI_ltI ha hb, nI_ltI hb ha, nI_leI ha hb, nI_leI hb ha] using h))) (fun h => kf (by first | exact h | (simpa [nI_eq ha hb, nI_eq hb ha, nI_ltI ha hb, nI_ltI hb ha, nI_leI ha hb, nI_leI hb ha] using h)))
theorem cn_if_eq_n {l : Launch} {en : cn_E} {mi : cn_M} {d kc ks : Nat} {S : cn_S} {I : cn_I} {P : cn_P} {Q : Option Value → cn_S → cn_I → cn_P → Prop} {pc pc' : Nat} {lv : List (Nat × Value)} {st : List Value} {a : Nat} {off : Int} {tgt : Nat} (ha : a < 2 ^ 31) (hd : decode mi.2.1 pc = .ok (.ifCond .eq off, 3)) (ht : (pc : Int) + off = (tgt : Int)) (hp : pc + 3 = pc') (kt : a = 0 → cn_V l en mi d kc ks S I P Q tgt lv st) (kf : ¬ a = 0 → cn_V l en mi d kc ks S I P Q pc' lv st) : cn_V l en mi d kc ks S I P Q pc lv (.int (nI a) :: st) := by
  have hz : (0 : Nat) < 2 ^ 31 := by decide
  have e1 := nI_eq ha hz
  have e2 := nI_ltI ha hz
  have e3 := nI_ltI hz ha
  have e4 := nI_leI ha hz
  have e5 := nI_leI hz ha
  rw [nI_0] at e1 e2 e3 e4 e5
  refine cn_if_eq hd ht hp (fun h => kt ?_) (fun h => kf ?_)
  · first | exact e1.mp h | exact e2.mp h | exact e3.mp h | exact e4.mp h | exact e5.mp h | exact fun q => h (e1.mpr q) | exact fun q => h (e2.mpr q) | exact fun q => h (e3.mpr q) | exact fun q => h (e4.mpr q) | exact fun q => h (e5.mpr q)
  · first | exact e1.mp h | exact e2.mp h | exact e3.mp h | exact e4.mp h | exact e5.mp h | exact fun q => h (e1.mpr q) | exact fun q => h (e2.mpr q) | exact fun q => h (e3.mpr q) | exact fun q => h (e4.mpr q) | exact fun q => h (e5.mpr q)
theorem cn_icmp_ne_n {l : Launch} {en : cn_E} {mi : cn_M} {d kc ks : Nat} {S : cn_S} {I : cn_I} {P : cn_P} {Q : Option Value → cn_S → cn_I → cn_P → Prop} {pc pc' : Nat} {lv : List (Nat × Value)} {st : List Value} {a b : Nat} {off : Int} {tgt : Nat} (ha : a < 2 ^ 31) (hb : b < 2 ^ 31) (hd : decode mi.2.1 pc = .ok (.if_icmp .ne off, 3)) (ht : (pc : Int) + off = (tgt : Int)) (hp : pc + 3 = pc') (kt : ¬ a = b → cn_V l en mi d kc ks S I P Q tgt lv st) (kf : a = b → cn_V l en mi d kc ks S I P Q pc' lv st) : cn_V l en mi d kc ks S I P Q pc lv (.int (nI b) :: .int (nI a) :: st) := cn_icmp_ne hd ht hp (fun h => kt (by first | exact h | (simpa [nI_eq ha hb, nI_eq hb ha, nI_ltI ha hb, nI_ltI hb ha, nI_leI ha hb, nI_leI hb ha] using h))) (fun h => kf (by first | exact h | (simpa [nI_eq ha hb, nI_eq hb ha, nI_ltI ha hb, nI_ltI hb ha, nI_leI ha hb, nI_leI hb ha] using h)))
theorem cn_if_ne_n {l : Launch} {en : cn_E} {mi : cn_M} {d kc ks : Nat} {S : cn_S} {I : cn_I} {P : cn_P} {Q : Option Value → cn_S → cn_I → cn_P → Prop} {pc pc' : Nat} {lv : List (Nat × Value)} {st : List Value} {a : Nat} {off : Int} {tgt : Nat} (ha : a < 2 ^ 31) (hd : decode mi.2.1 pc = .ok (.ifCond .ne off, 3)) (ht : (pc : Int) + off = (tgt : Int)) (hp : pc + 3 = pc') (kt : ¬ a = 0 → cn_V l en mi d kc ks S I P Q tgt lv st) (kf : a = 0 → cn_V l en mi d kc ks S I P Q pc' lv st) : cn_V l en mi d kc ks S I P Q pc lv (.int (nI a) :: st) := by
  have hz : (0 : Nat) < 2 ^ 31 := by decide
  have e1 := nI_eq ha hz
  have e2 := nI_ltI ha hz
  have e3 := nI_ltI hz ha
  have e4 := nI_leI ha hz
  have e5 := nI_leI hz ha
  rw [nI_0] at e1 e2 e3 e4 e5
  refine cn_if_ne hd ht hp (fun h => kt ?_) (fun h => kf ?_)
  · first | exact e1.mp h | exact e2.mp h | exact e3.mp h | exact e4.mp h | exact e5.mp h | exact fun q => h (e1.mpr q) | exact fun q => h (e2.mpr q) | exact fun q => h (e3.mpr q) | exact fun q => h (e4.mpr q) | exact fun q => h (e5.mpr q)
  · first | exact e1.mp h | exact e2.mp h | exact e3.mp h | exact e4.mp h | exact e5.mp h | exact fun q => h (e1.mpr q) | exact fun q => h (e2.mpr q) | exact fun q => h (e3.mpr q) | exact fun q => h (e4.mpr q) | exact fun q => h (e5.mpr q)
theorem cn_icmp_lt_n {l : Launch} {en : cn_E} {mi : cn_M} {d kc ks : Nat} {S : cn_S} {I : cn_I} {P : cn_P} {Q : Option Value → cn_S → cn_I → cn_P → Prop} {pc pc' : Nat} {lv : List (Nat × Value)} {st : List Value} {a b : Nat} {off : Int} {tgt : Nat} (ha : a < 2 ^ 31) (hb : b < 2 ^ 31) (hd : decode mi.2.1 pc = .ok (.if_icmp .lt off, 3)) (ht : (pc : Int) + off = (tgt : Int)) (hp : pc + 3 = pc') (kt : a < b → cn_V l en mi d kc ks S I P Q tgt lv st) (kf : ¬ a < b → cn_V l en mi d kc ks S I P Q pc' lv st) : cn_V l en mi d kc ks S I P Q pc lv (.int (nI b) :: .int (nI a) :: st) := cn_icmp_lt hd ht hp (fun h => kt (by first | exact h | (simpa [nI_eq ha hb, nI_eq hb ha, nI_ltI ha hb, nI_ltI hb ha, nI_leI ha hb, nI_leI hb ha] using h))) (fun h => kf (by first | exact h | (simpa [nI_eq ha hb, nI_eq hb ha, nI_ltI ha hb, nI_ltI hb ha, nI_leI ha hb, nI_leI hb ha] using h)))
theorem cn_if_lt_n {l : Launch} {en : cn_E} {mi : cn_M} {d kc ks : Nat} {S : cn_S} {I : cn_I} {P : cn_P} {Q : Option Value → cn_S → cn_I → cn_P → Prop} {pc pc' : Nat} {lv : List (Nat × Value)} {st : List Value} {a : Nat} {off : Int} {tgt : Nat} (ha : a < 2 ^ 31) (hd : decode mi.2.1 pc = .ok (.ifCond .lt off, 3)) (ht : (pc : Int) + off = (tgt : Int)) (hp : pc + 3 = pc') (kt : a < 0 → cn_V l en mi d kc ks S I P Q tgt lv st) (kf : ¬ a < 0 → cn_V l en mi d kc ks S I P Q pc' lv st) : cn_V l en mi d kc ks S I P Q pc lv (.int (nI a) :: st) := by
  have hz : (0 : Nat) < 2 ^ 31 := by decide
  have e1 := nI_eq ha hz
  have e2 := nI_ltI ha hz
  have e3 := nI_ltI hz ha
  have e4 := nI_leI ha hz
  have e5 := nI_leI hz ha
  rw [nI_0] at e1 e2 e3 e4 e5
  refine cn_if_lt hd ht hp (fun h => kt ?_) (fun h => kf ?_)
  · first | exact e1.mp h | exact e2.mp h | exact e3.mp h | exact e4.mp h | exact e5.mp h | exact fun q => h (e1.mpr q) | exact fun q => h (e2.mpr q) | exact fun q => h (e3.mpr q) | exact fun q => h (e4.mpr q) | exact fun q => h (e5.mpr q)
  · first | exact e1.mp h | exact e2.mp h | exact e3.mp h | exact e4.mp h | exact e5.mp h | exact fun q => h (e1.mpr q) | exact fun q => h (e2.mpr q) | exact fun q => h (e3.mpr q) | exact fun q => h (e4.mpr q) | exact fun q => h (e5.mpr q)
theorem cn_icmp_ge_n {l : Launch} {en : cn_E} {mi : cn_M} {d kc ks : Nat} {S : cn_S} {I : cn_I} {P : cn_P} {Q : Option Value → cn_S → cn_I → cn_P → Prop} {pc pc' : Nat} {lv : List (Nat × Value)} {st : List Value} {a b : Nat} {off : Int} {tgt : Nat} (ha : a < 2 ^ 31) (hb : b < 2 ^ 31) (hd : decode mi.2.1 pc = .ok (.if_icmp .ge off, 3)) (ht : (pc : Int) + off = (tgt : Int)) (hp : pc + 3 = pc') (kt : b ≤ a → cn_V l en mi d kc ks S I P Q tgt lv st) (kf : ¬ b ≤ a → cn_V l en mi d kc ks S I P Q pc' lv st) : cn_V l en mi d kc ks S I P Q pc lv (.int (nI b) :: .int (nI a) :: st) := cn_icmp_ge hd ht hp (fun h => kt (by first | exact h | (simpa [nI_eq ha hb, nI_eq hb ha, nI_ltI ha hb, nI_ltI hb ha, nI_leI ha hb, nI_leI hb ha] using h))) (fun h => kf (by first | exact h | (simpa [nI_eq ha hb, nI_eq hb ha, nI_ltI ha hb, nI_ltI hb ha, nI_leI ha hb, nI_leI hb ha] using h)))
theorem cn_if_ge_n {l : Launch} {en : cn_E} {mi : cn_M} {d kc ks : Nat} {S : cn_S} {I : cn_I} {P : cn_P} {Q : Option Value → cn_S → cn_I → cn_P → Prop} {pc pc' : Nat} {lv : List (Nat × Value)} {st : List Value} {a : Nat} {off : Int} {tgt : Nat} (ha : a < 2 ^ 31) (hd : decode mi.2.1 pc = .ok (.ifCond .ge off, 3)) (ht : (pc : Int) + off = (tgt : Int)) (hp : pc + 3 = pc') (kt : 0 ≤ a → cn_V l en mi d kc ks S I P Q tgt lv st) (kf : ¬ 0 ≤ a → cn_V l en mi d kc ks S I P Q pc' lv st) : cn_V l en mi d kc ks S I P Q pc lv (.int (nI a) :: st) := by
  have hz : (0 : Nat) < 2 ^ 31 := by decide
  have e1 := nI_eq ha hz
  have e2 := nI_ltI ha hz
  have e3 := nI_ltI hz ha
  have e4 := nI_leI ha hz
  have e5 := nI_leI hz ha
  rw [nI_0] at e1 e2 e3 e4 e5
  refine cn_if_ge hd ht hp (fun h => kt ?_) (fun h => kf ?_)
  · first | exact e1.mp h | exact e2.mp h | exact e3.mp h | exact e4.mp h | exact e5.mp h | exact fun q => h (e1.mpr q) | exact fun q => h (e2.mpr q) | exact fun q => h (e3.mpr q) | exact fun q => h (e4.mpr q) | exact fun q => h (e5.mpr q)
  · first | exact e1.mp h | exact e2.mp h | exact e3.mp h | exact e4.mp h | exact e5.mp h | exact fun q => h (e1.mpr q) | exact fun q => h (e2.mpr q) | exact fun q => h (e3.mpr q) | exact fun q => h (e4.mpr q) | exact fun q => h (e5.mpr q)
theorem cn_icmp_gt_n {l : Launch} {en : cn_E} {mi : cn_M} {d kc ks : Nat} {S : cn_S} {I : cn_I} {P : cn_P} {Q : Option Value → cn_S → cn_I → cn_P → Prop} {pc pc' : Nat} {lv : List (Nat × Value)} {st : List Value} {a b : Nat} {off : Int} {tgt : Nat} (ha : a < 2 ^ 31) (hb : b < 2 ^ 31) (hd : decode mi.2.1 pc = .ok (.if_icmp .gt off, 3)) (ht : (pc : Int) + off = (tgt : Int)) (hp : pc + 3 = pc') (kt : b < a → cn_V l en mi d kc ks S I P Q tgt lv st) (kf : ¬ b < a → cn_V l en mi d kc ks S I P Q pc' lv st) : cn_V l en mi d kc ks S I P Q pc lv (.int (nI b) :: .int (nI a) :: st) := cn_icmp_gt hd ht hp (fun h => kt (by first | exact h | (simpa [nI_eq ha hb, nI_eq hb ha, nI_ltI ha hb, nI_ltI hb ha, nI_leI ha hb, nI_leI hb ha] using h))) (fun h => kf (by first | exact h | (simpa [nI_eq ha hb, nI_eq hb ha, nI_ltI ha hb, nI_ltI hb ha, nI_leI ha hb, nI_leI hb ha] using h)))
theorem cn_if_gt_n {l : Launch} {en : cn_E} {mi : cn_M} {d kc ks : Nat} {S : cn_S} {I : cn_I} {P : cn_P} {Q : Option Value → cn_S → cn_I → cn_P → Prop} {pc pc' : Nat} {lv : List (Nat × Value)} {st : List Value} {a : Nat} {off : Int} {tgt : Nat} (ha : a < 2 ^ 31) (hd : decode mi.2.1 pc = .ok (.ifCond .gt off, 3)) (ht : (pc : Int) + off = (tgt : Int)) (hp : pc + 3 = pc') (kt : 0 < a → cn_V l en mi d kc ks S I P Q tgt lv st) (kf : ¬ 0 < a → cn_V l en mi d kc ks S I P Q pc' lv st) : cn_V l en mi d kc ks S I P Q pc lv (.int (nI a) :: st) := by
  have hz : (0 : Nat) < 2 ^ 31 := by decide
  have e1 := nI_eq ha hz
  have e2 := nI_ltI ha hz
  have e3 := nI_ltI hz ha
  have e4 := nI_leI ha hz
  have e5 := nI_leI hz ha
  rw [nI_0] at e1 e2 e3 e4 e5
  refine cn_if_gt hd ht hp (fun h => kt ?_) (fun h => kf ?_)
  · first | exact e1.mp h | exact e2.mp h | exact e3.mp h | exact e4.mp h | exact e5.mp h | exact fun q => h (e1.mpr q) | exact fun q => h (e2.mpr q) | exact fun q => h (e3.mpr q) | exact fun q => h (e4.mpr q) | exact fun q => h (e5.mpr q)
  · first | exact e1.mp h | exact e2.mp h | exact e3.mp h | exact e4.mp h | exact e5.mp h | exact fun q => h (e1.mpr q) | exact fun q => h (e2.mpr q) | exact fun q => h (e3.mpr q) | exact fun q => h (e4.mpr q) | exact fun q => h (e5.mpr q)
theorem cn_icmp_le_n {l : Launch} {en : cn_E} {mi : cn_M} {d kc ks : Nat} {S : cn_S} {I : cn_I} {P : cn_P} {Q : Option Value → cn_S → cn_I → cn_P → Prop} {pc pc' : Nat} {lv : List (Nat × Value)} {st : List Value} {a b : Nat} {off : Int} {tgt : Nat} (ha : a < 2 ^ 31) (hb : b < 2 ^ 31) (hd : decode mi.2.1 pc = .ok (.if_icmp .le off, 3)) (ht : (pc : Int) + off = (tgt : Int)) (hp : pc + 3 = pc') (kt : a ≤ b → cn_V l en mi d kc ks S I P Q tgt lv st) (kf : ¬ a ≤ b → cn_V l en mi d kc ks S I P Q pc' lv st) : cn_V l en mi d kc ks S I P Q pc lv (.int (nI b) :: .int (nI a) :: st) := cn_icmp_le hd ht hp (fun h => kt (by first | exact h | (simpa [nI_eq ha hb, nI_eq hb ha, nI_ltI ha hb, nI_ltI hb ha, nI_leI ha hb, nI_leI hb ha] using h))) (fun h => kf (by first | exact h | (simpa [nI_eq ha hb, nI_eq hb ha, nI_ltI ha hb, nI_ltI hb ha, nI_leI ha hb, nI_leI hb ha] using h)))
theorem cn_if_le_n {l : Launch} {en : cn_E} {mi : cn_M} {d kc ks : Nat} {S : cn_S} {I : cn_I} {P : cn_P} {Q : Option Value → cn_S → cn_I → cn_P → Prop} {pc pc' : Nat} {lv : List (Nat × Value)} {st : List Value} {a : Nat} {off : Int} {tgt : Nat} (ha : a < 2 ^ 31) (hd : decode mi.2.1 pc = .ok (.ifCond .le off, 3)) (ht : (pc : Int) + off = (tgt : Int)) (hp : pc + 3 = pc') (kt : a ≤ 0 → cn_V l en mi d kc ks S I P Q tgt lv st) (kf : ¬ a ≤ 0 → cn_V l en mi d kc ks S I P Q pc' lv st) : cn_V l en mi d kc ks S I P Q pc lv (.int (nI a) :: st) := by
  have hz : (0 : Nat) < 2 ^ 31 := by decide
  have e1 := nI_eq ha hz
  have e2 := nI_ltI ha hz
  have e3 := nI_ltI hz ha
  have e4 := nI_leI ha hz
  have e5 := nI_leI hz ha
  rw [nI_0] at e1 e2 e3 e4 e5
  refine cn_if_le hd ht hp (fun h => kt ?_) (fun h => kf ?_)
  · first | exact e1.mp h | exact e2.mp h | exact e3.mp h | exact e4.mp h | exact e5.mp h | exact fun q => h (e1.mpr q) | exact fun q => h (e2.mpr q) | exact fun q => h (e3.mpr q) | exact fun q => h (e4.mpr q) | exact fun q => h (e5.mpr q)
  · first | exact e1.mp h | exact e2.mp h | exact e3.mp h | exact e4.mp h | exact e5.mp h | exact fun q => h (e1.mpr q) | exact fun q => h (e2.mpr q) | exact fun q => h (e3.mpr q) | exact fun q => h (e4.mpr q) | exact fun q => h (e5.mpr q)
end
section
theorem w_oi : Cond.instanceMethod Lib.objectInit ∈ cn_T := cn_inT 76 (by decide +kernel) (by decide +kernel)
theorem w_oc : Cond.code Lib.objectInit ⟨#[0xb1]⟩ 1 none ∈ cn_T := cn_inT 77 (by decide +kernel) (by decide +kernel)
theorem w_obj_X : Cond.methodLink "ChunkedNodes" 3 Lib.objectInit ∈ cn_T := cn_inT 75 (by decide +kernel) (by decide +kernel)
theorem w_cl_X_9 : Cond.classLink "ChunkedNodes" 9 "ChunkedNodes$Node" ∈ cn_T := cn_inT 78 (by decide +kernel) (by decide +kernel)
theorem ff_X_11 : Cond.fieldLink "ChunkedNodes" 11 "ChunkedNodes" (cn_TX 0).2.1 (cn_TX 0).2.2.1 ∈ cn_T := cn_inT 265 (by decide +kernel) (by decide +kernel)
theorem w_cl_X_15 : Cond.classLink "ChunkedNodes" 15 "ChunkedNodes$Item" ∈ cn_T := cn_inT 80 (by decide +kernel) (by decide +kernel)
theorem ff_X_17 : Cond.fieldLink "ChunkedNodes" 17 "ChunkedNodes" (cn_TX 2).2.1 (cn_TX 2).2.2.1 ∈ cn_T := cn_inT 267 (by decide +kernel) (by decide +kernel)
theorem ff_X_24 : Cond.fieldLink "ChunkedNodes" 24 "ChunkedNodes" (cn_TX 4).2.1 (cn_TX 4).2.2.1 ∈ cn_T := cn_inT 269 (by decide +kernel) (by decide +kernel)
theorem ff_X_31 : Cond.fieldLink "ChunkedNodes" 31 "ChunkedNodes" (cn_TX 5).2.1 (cn_TX 5).2.2.1 ∈ cn_T := cn_inT 270 (by decide +kernel) (by decide +kernel)
theorem ff_X_40 : Cond.fieldLink "ChunkedNodes" 40 "ChunkedNodes" (cn_TX 6).2.1 (cn_TX 6).2.2.1 ∈ cn_T := cn_inT 271 (by decide +kernel) (by decide +kernel)
theorem ff_X_44 : Cond.fieldLink "ChunkedNodes" 44 "ChunkedNodes" (cn_TX 8).2.1 (cn_TX 8).2.2.1 ∈ cn_T := cn_inT 273 (by decide +kernel) (by decide +kernel)
theorem ff_X_47 : Cond.fieldLink "ChunkedNodes" 47 "ChunkedNodes" (cn_TX 9).2.1 (cn_TX 9).2.2.1 ∈ cn_T := cn_inT 274 (by decide +kernel) (by decide +kernel)
theorem w_obj_Sf : Cond.methodLink "ChunkedNodes$Shelf" 3 Lib.objectInit ∈ cn_T := cn_inT 87 (by decide +kernel) (by decide +kernel)
theorem w_cl_Sf_9 : Cond.classLink "ChunkedNodes$Shelf" 9 "ChunkedNodes$Parcel" ∈ cn_T := cn_inT 88 (by decide +kernel) (by decide +kernel)
theorem ff_Sf_11 : Cond.fieldLink "ChunkedNodes$Shelf" 11 "ChunkedNodes$Shelf" (cn_TSf 0).2.1 (cn_TSf 0).2.2.1 ∈ cn_T := cn_inT 123 (by decide +kernel) (by decide +kernel)
theorem w_obj_Pa : Cond.methodLink "ChunkedNodes$Parcel" 3 Lib.objectInit ∈ cn_T := cn_inT 94 (by decide +kernel) (by decide +kernel)
theorem ff_Pa_14 : Cond.fieldLink "ChunkedNodes$Parcel" 14 "ChunkedNodes$Parcel" (cn_TPa 1).2.1 (cn_TPa 1).2.2.1 ∈ cn_T := cn_inT 115 (by decide +kernel) (by decide +kernel)
theorem w_obj_By : Cond.methodLink "ChunkedNodes$Bytes" 1 Lib.objectInit ∈ cn_T := cn_inT 100 (by decide +kernel) (by decide +kernel)
theorem ff_By_7 : Cond.fieldLink "ChunkedNodes$Bytes" 7 "ChunkedNodes$Bytes" (cn_TBy 0).2.1 (cn_TBy 0).2.2.1 ∈ cn_T := cn_inT 101 (by decide +kernel) (by decide +kernel)
theorem w_obj_Ch : Cond.methodLink "ChunkedNodes$Channel" 3 Lib.objectInit ∈ cn_T := cn_inT 140 (by decide +kernel) (by decide +kernel)
theorem ff_Ch_12 : Cond.fieldLink "ChunkedNodes$Channel" 12 "ChunkedNodes$Channel" (cn_TCh 0).2.1 (cn_TCh 0).2.2.1 ∈ cn_T := cn_inT 161 (by decide +kernel) (by decide +kernel)
theorem w_obj_Me : Cond.methodLink "ChunkedNodes$Message" 3 Lib.objectInit ∈ cn_T := cn_inT 146 (by decide +kernel) (by decide +kernel)
theorem ff_Me_14 : Cond.fieldLink "ChunkedNodes$Message" 14 "ChunkedNodes$Message" (cn_TMe 0).2.1 (cn_TMe 0).2.2.1 ∈ cn_T := cn_inT 149 (by decide +kernel) (by decide +kernel)
theorem w_obj_No : Cond.methodLink "ChunkedNodes$Node" 3 Lib.objectInit ∈ cn_T := cn_inT 192 (by decide +kernel) (by decide +kernel)
theorem ff_No_14 : Cond.fieldLink "ChunkedNodes$Node" 14 "ChunkedNodes$Node" (cn_TNo 2).2.1 (cn_TNo 2).2.2.1 ∈ cn_T := cn_inT 199 (by decide +kernel) (by decide +kernel)
theorem w_obj_It : Cond.methodLink "ChunkedNodes$Item" 3 Lib.objectInit ∈ cn_T := cn_inT 213 (by decide +kernel) (by decide +kernel)
theorem w_cl_It_9 : Cond.classLink "ChunkedNodes$Item" 9 "ChunkedNodes$Notice" ∈ cn_T := cn_inT 214 (by decide +kernel) (by decide +kernel)
theorem ff_It_11 : Cond.fieldLink "ChunkedNodes$Item" 11 "ChunkedNodes$Item" (cn_TIt 0).2.1 (cn_TIt 0).2.2.1 ∈ cn_T := cn_inT 233 (by decide +kernel) (by decide +kernel)
theorem w_obj_Nt : Cond.methodLink "ChunkedNodes$Notice" 3 Lib.objectInit ∈ cn_T := cn_inT 220 (by decide +kernel) (by decide +kernel)
theorem ff_Nt_14 : Cond.fieldLink "ChunkedNodes$Notice" 14 "ChunkedNodes$Notice" (cn_TNt 0).2.1 (cn_TNt 0).2.2.1 ∈ cn_T := cn_inT 223 (by decide +kernel) (by decide +kernel)
theorem w_k_No_34 : Cond.constantLong "ChunkedNodes$Node" 34 (-1) ∈ cn_T := cn_inT 264 (by decide +kernel) (by decide +kernel)
theorem w_st_By_21 : Cond.methodLink "ChunkedNodes$Bytes" 21 Lib.Math.min.name ∈ cn_T := cn_inT 357 (by decide +kernel) (by decide +kernel)
theorem w_st_By_27 : Cond.methodLink "ChunkedNodes$Bytes" 27 arraycopyName ∈ cn_T := cn_inT 360 (by decide +kernel) (by decide +kernel)
theorem w_st_X_228 : Cond.methodLink "ChunkedNodes" 228 Lib.Math.min.name ∈ cn_T := cn_inT 488 (by decide +kernel) (by decide +kernel)
theorem w_st_X_233 : Cond.methodLink "ChunkedNodes" 233 Lib.Math.max.name ∈ cn_T := cn_inT 489 (by decide +kernel) (by decide +kernel)
theorem w_obj_M : Cond.methodLink "ChunkedNodesModel" 1 Lib.objectInit ∈ cn_T := cn_inT 570 (by decide +kernel) (by decide +kernel)
theorem w_k_M_107 : Cond.constantLong "ChunkedNodesModel" 107 (-1) ∈ cn_T := cn_inT 708 (by decide +kernel) (by decide +kernel)
theorem w_k_M_105 : Cond.constantLong "ChunkedNodesModel" 105 (255) ∈ cn_T := cn_inT 713 (by decide +kernel) (by decide +kernel)
theorem w_k_L_32 : Cond.constantLong "ChunkedNodesLaw" 32 (4294967295) ∈ cn_T := cn_inT 874 (by decide +kernel) (by decide +kernel)
theorem w_max_s : Cond.static Lib.Math.max.name ∈ cn_T := cn_inT 490 (by decide +kernel) (by decide +kernel)
theorem w_max_c : Cond.code Lib.Math.max.name Lib.Math.max.code 2 (some .int) ∈ cn_T := cn_inT 491 (by decide +kernel) (by decide +kernel)
theorem w_min_s : Cond.static Lib.Math.min.name ∈ cn_T := cn_inT 358 (by decide +kernel) (by decide +kernel)
theorem w_min_c : Cond.code Lib.Math.min.name Lib.Math.min.code 2 (some .int) ∈ cn_T := cn_inT 359 (by decide +kernel) (by decide +kernel)
theorem w_math : Cond.initialized "java/lang/Math" ∈ cn_T := cn_inT 68 (by decide +kernel) (by decide +kernel)
theorem w_sys : Cond.initialized "java/lang/System" ∈ cn_T := cn_inT 69 (by decide +kernel) (by decide +kernel)
theorem w_ac_n : Cond.native arraycopyName ∈ cn_T := cn_inT 362 (by decide +kernel) (by decide +kernel)
theorem w_ac_s : Cond.static arraycopyName ∈ cn_T := cn_inT 361 (by decide +kernel) (by decide +kernel)
theorem w_ac_0 : Cond.arrayClass (cn_ty 0) ∈ cn_T := cn_inT 208 (by decide +kernel) (by decide +kernel)
theorem w_ac_1 : Cond.arrayClass (cn_ty 1) ∈ cn_T := cn_inT 112 (by decide +kernel) (by decide +kernel)
theorem w_ac_2 : Cond.arrayClass (cn_ty 2) ∈ cn_T := cn_inT 683 (by decide +kernel) (by decide +kernel)
theorem w_dv : ∀ ci, ci < 10 → ∀ j, j < cn_NF ci → defaultValue (cn_ft ci j) = if cn_isr (cn_ft ci j) = true then .null else .int 0 := by decide +kernel
end
section
def bt (x : Int32) (i : Nat) : Bool := x.toBitVec.getLsbD i
theorem b_ext {x y : Int32} (h : ∀ i, i < 32 → bt x i = bt y i) : x = y := Int32.toBitVec_inj.mp (BitVec.eq_of_getLsbD_eq (fun i hi => h i hi))
theorem b_or (x y : Int32) (i : Nat) : bt (x ||| y) i = (bt x i || bt y i) := by unfold bt; rw [Int32.toBitVec_or, BitVec.getLsbD_or]
theorem b_and (x y : Int32) (i : Nat) : bt (x &&& y) i = (bt x i && bt y i) := by unfold bt; rw [Int32.toBitVec_and, BitVec.getLsbD_and]
theorem b_xor (x y : Int32) (i : Nat) : bt (x ^^^ y) i = (bt x i ^^ bt y i) := by unfold bt; rw [Int32.toBitVec_xor, BitVec.getLsbD_xor]
theorem b_big {x : Int32} {i : Nat} (h : 32 ≤ i) : bt x i = false := BitVec.getLsbD_of_ge _ _ h
theorem b_255 (i : Nat) : bt 255 i = decide (i < 8) := by
  rcases Nat.lt_or_ge i 32 with h | h
  · exact (by decide +kernel : ∀ i, i < 32 → bt 255 i = decide (i < 8)) i h
  · rw [b_big h, decide_eq_false (by omega)]
theorem b_65535 (i : Nat) : bt 65535 i = decide (i < 16) := by
  rcases Nat.lt_or_ge i 32 with h | h
  · exact (by decide +kernel : ∀ i, i < 32 → bt 65535 i = decide (i < 16)) i h
  · rw [b_big h, decide_eq_false (by omega)]
theorem b_m1 : ∀ i, i < 32 → bt (-1) i = true := by decide +kernel
theorem b_0 (i : Nat) : bt 0 i = false := BitVec.getLsbD_zero
theorem s_l : ∀ n, n < 32 → ((nI n &&& 31).toBitVec.smod 32).toNat = n := by decide +kernel
theorem s_u : ∀ n, n < 32 → (((nI n).toUInt32 &&& Int32.toUInt32 31).toBitVec % 32).toNat = n := by decide +kernel
theorem b_shl (n : Nat) (hn : n < 32) (x : Int32) {i : Nat} (hi : i < 32) : bt (x <<< (nI n &&& 31)) i = (decide (n ≤ i) && bt x (i - n)) := by
  unfold bt
  rw [Int32.toBitVec_shiftLeft]
  show (x.toBitVec <<< ((nI n &&& 31).toBitVec.smod 32).toNat).getLsbD i = _
  rw [s_l n hn, BitVec.getLsbD_shiftLeft]
  rcases Nat.lt_or_ge i n with h | h
  · simp [h, Nat.not_le.mpr h]
  · simp [hi, h, Nat.not_lt.mpr h]
theorem b_ushr (n : Nat) (hn : n < 32) (x : Int32) (i : Nat) : bt ((x.toUInt32 >>> ((nI n).toUInt32 &&& Int32.toUInt32 31)).toInt32) i = bt x (n + i) := by
  show (x.toUInt32 >>> ((nI n).toUInt32 &&& Int32.toUInt32 31)).toBitVec.getLsbD i = x.toUInt32.toBitVec.getLsbD (n + i)
  rw [UInt32.toBitVec_shiftRight]
  show (x.toUInt32.toBitVec >>> (((nI n).toUInt32 &&& Int32.toUInt32 31).toBitVec % 32).toNat).getLsbD i = _
  rw [s_u n hn, BitVec.getLsbD_ushiftRight]
theorem b_sshr (n : Nat) (hn : n < 32) (x : Int32) {i : Nat} (hi : i < 32) : bt (x >>> (nI n &&& 31)) i = if n + i < 32 then bt x (n + i) else bt x 31 := by
  unfold bt
  rw [Int32.toBitVec_shiftRight]
  show (x.toBitVec.sshiftRight ((nI n &&& 31).toBitVec.smod 32).toNat).getLsbD i = _
  rw [s_l n hn, BitVec.getLsbD_sshiftRight, BitVec.msb_eq_getLsbD_last]
  simp [hi]
theorem bl_shr {x : Int64} {s : Int64} {k : Nat} (hs : (s.toBitVec.smod 64).toNat = k) {j : Nat} (hj : k + j < 64) : (x >>> s).toBitVec.getLsbD j = x.toBitVec.getLsbD (k + j) := by
  rw [Int64.toBitVec_shiftRight]
  show (x.toBitVec.sshiftRight (s.toBitVec.smod 64).toNat).getLsbD j = _
  rw [hs, BitVec.getLsbD_sshiftRight, if_pos hj]
  simp
  omega
theorem bl_i {x : Int64} {j : Nat} (hj : j < 32) : bt x.toInt32 j = x.toBitVec.getLsbD j := by
  unfold bt
  rw [Int64.toBitVec_toInt32, BitVec.getLsbD_signExtend, if_pos (by omega)]
  simp [hj]
theorem bi_l {x : Int32} {j : Nat} (hj : j < 32) : x.toInt64.toBitVec.getLsbD j = bt x j := by
  unfold bt
  rw [Int32.toBitVec_toInt64, BitVec.getLsbD_signExtend, if_pos hj]
  have h : j < 64 := by omega
  simp [h]
theorem s_l64 : ∀ i, i < 8 → (((nI (8 * i)).toInt64 &&& 63).toBitVec.smod 64).toNat = 8 * i := by decide +kernel
/-- byte i of a long -/
def lby (x : Int64) (i : Nat) : Int32 := (x >>> ((nI (8 * i)).toInt64 &&& 63)).toInt32 &&& 255
theorem lby_bit {x : Int64} {i j : Nat} (hi : i < 8) (hj : j < 8) : bt (lby x i) j = x.toBitVec.getLsbD (8 * i + j) := by
  unfold lby
  rw [b_and, b_255, bl_i (by omega), bl_shr (s_l64 i hi) (by omega), decide_eq_true hj, Bool.and_true]
theorem lby_hi {x : Int64} {i j : Nat} (hj : 8 ≤ j) : bt (lby x i) j = false := by
  unfold lby
  rw [b_and, b_255, decide_eq_false (by omega), Bool.and_false]
theorem b_hi {a : Int32} (ha : a &&& 255 = a) {j : Nat} (hj : 8 ≤ j) : bt a j = false := by
  rw [← ha, b_and, b_255, decide_eq_false (by omega), Bool.and_false]
end
section
theorem bp_b (x : Int32) : x.toInt8.toInt32 &&& 255 = x &&& 255 := by
  apply Int32.toBitVec_inj.mp
  rw [Int32.toBitVec_and, Int32.toBitVec_and, Int8.toBitVec_toInt32, Int32.toBitVec_toInt8]
  apply BitVec.eq_of_getLsbD_eq
  intro i hi
  rw [BitVec.getLsbD_and, BitVec.getLsbD_and]
  have hm : ∀ i < 32, 8 ≤ i → (255 : Int32).toBitVec.getLsbD i = false := by decide
  rcases Nat.lt_or_ge i 8 with z | z
  · rw [BitVec.getLsbD_signExtend, BitVec.getLsbD_signExtend, if_pos z, if_pos hi]
    simp only [z, hi, decide_true, Bool.true_and]
  · rw [hm i hi z]; simp
theorem b8_low (x : Int32) : (x &&& 255).toInt8 = x.toInt8 := by
  apply Int8.toBitVec_inj.mp
  rw [Int32.toBitVec_toInt8, Int32.toBitVec_toInt8, Int32.toBitVec_and]
  apply BitVec.eq_of_getLsbD_eq
  intro i hi
  rw [BitVec.getLsbD_signExtend, BitVec.getLsbD_signExtend, if_pos (by omega), if_pos (by omega), BitVec.getLsbD_and]
  have hm : ∀ i < 8, (255 : Int32).toBitVec.getLsbD i = true := by decide
  rw [hm i hi, Bool.and_true]
theorem b8_nar (x : Int32) : vp_nar .byte (x.toInt8.toInt32) = vp_nar .byte (x &&& 255) := by
  rw [pk_vb, vp_nar_byte, b8_low]
theorem b8_and {x : Int32} (h : x &&& 255 = x) : vp_nar .byte x &&& 255 = x := by
  rw [vp_nar_byte, bp_b, h]
theorem b8_idem (x : Int32) : x &&& 255 &&& 255 = x &&& 255 := by
  rw [Int32.and_assoc]; rfl
theorem b8_inj {x y : Int32} (hx : x &&& 255 = x) (hy : y &&& 255 = y) (h : vp_nar .byte x = vp_nar .byte y) : x = y := by
  rw [← b8_and hx, ← b8_and hy, h]
theorem gd_l {v w : List Int32} {j : Nat} (h : j < v.length) : (v ++ w).getD j 0 = v.getD j 0 := by
  rw [List.getD_eq_getElem?_getD, List.getD_eq_getElem?_getD, List.getElem?_append_left h]
theorem gd_r {v w : List Int32} {j : Nat} (h : v.length ≤ j) : (v ++ w).getD j 0 = w.getD (j - v.length) 0 := by
  rw [List.getD_eq_getElem?_getD, List.getD_eq_getElem?_getD, List.getElem?_append_right h]
def yb (S : cn_S) (P : cn_P) (b cap : Nat) : Prop := cn_ob S b 0 ∧ P b 0 = some (b + 1) ∧ cn_ar S (b + 1) 1 cap ∧ cap ≤ 1000
def ys (I : cn_I) (b : Nat) (v : List Int32) : Prop := I b 1 = nI v.length ∧ (∀ j, j < v.length → I (b + 1) j = vp_nar .byte (v.getD j 0)) ∧ ∀ x ∈ v, x &&& 255 = x
def fr2 (I I' : cn_I) (b : Nat) : Prop := ∀ a, a ≠ b → a ≠ b + 1 → I' a = I a
theorem fr2.rf {I : cn_I} {b : Nat} : fr2 I I b := fun _ _ _ => rfl
theorem fr2.tr {I I1 I2 : cn_I} {b : Nat} (h1 : fr2 I I1 b) (h2 : fr2 I1 I2 b) : fr2 I I2 b := fun a x y => (h2 a x y).trans (h1 a x y)
theorem ys.congr {I I' : cn_I} {b : Nat} {v : List Int32} (h : ys I b v) (e1 : I' b = I b) (e2 : I' (b + 1) = I (b + 1)) : ys I' b v := ⟨by rw [e1]; exact h.1, fun j hj => by rw [e2]; exact h.2.1 j hj, h.2.2⟩
theorem ys.keep {I I' : cn_I} {b c : Nat} {v : List Int32} (h : ys I b v) (hf : fr2 I I' c) (h1 : b ≠ c) (h2 : b ≠ c + 1) (h3 : b + 1 ≠ c) : ys I' b v := h.congr (hf b h1 h2) (hf (b + 1) h3 (by omega))
theorem ys.by8 {I : cn_I} {b j : Nat} {v : List Int32} (h : ys I b v) (hj : j < v.length) : v.getD j 0 &&& 255 = v.getD j 0 := by
  apply h.2.2
  rw [List.getD_eq_getElem?_getD, List.getElem?_eq_getElem hj]
  exact List.getElem_mem hj
theorem ys_clear {I : cn_I} {b : Nat} : ys (cn_wi I b 1 (nI 0)) b [] := ⟨by simp [cn_wi, upd], fun j hj => absurd hj (Nat.not_lt_zero j), fun x hx => absurd hx List.not_mem_nil⟩
theorem fr2_clear {I : cn_I} {b k : Nat} {w : Int32} : fr2 I (cn_wi I b k w) b := fun _ h1 _ => cn_wi_ne h1
theorem ys_push {I : cn_I} {b : Nat} {v : List Int32} {x : Int32} (h : ys I b v) : ys (cn_wi (cn_wi I (b + 1) v.length (vp_nar .byte x.toInt8.toInt32)) b 1 (nI (v.length + 1))) b (v ++ [x &&& 255]) := by
  refine ⟨by simp [cn_wi, upd], fun j hj => ?_, fun y hy => ?_⟩
  · rw [cn_wi_ne (by omega), cn_wi_row]
    rw [List.length_append] at hj
    have hj : j < v.length + 1 := hj
    by_cases e : j = v.length
    · subst e
      simp [upd, b8_nar]
    · have hl : j < v.length := by omega
      simp only [upd, if_neg e]
      rw [h.2.1 j hl, gd_l hl]
  · rcases List.mem_append.mp hy with h1 | h1
    · exact h.2.2 y h1
    · rw [List.mem_singleton.mp h1]
      exact b8_idem x
theorem fr2_push {I : cn_I} {b k j : Nat} {w z : Int32} : fr2 I (cn_wi (cn_wi I (b + 1) j w) b k z) b := fun a h1 h2 => by rw [cn_wi_ne h1, cn_wi_ne h2]
theorem tk_lt {v : List Int32} {x : Int32} {cap : Nat} (h : v.length < cap) : (v ++ [x]).take cap = v ++ [x] := List.take_of_length_le (by simp; omega)
theorem tk_ge {v w : List Int32} {cap : Nat} (h : v.length = cap) : (v ++ w).take cap = v := by rw [← h, List.take_left']; rfl
def lbs (x : Int64) (n : Nat) : List Int32 := (List.range n).map (lby x)
theorem lbs_succ (x : Int64) (n : Nat) : lbs x (n + 1) = lbs x n ++ [lby x n] := by simp [lbs, List.range_succ]
theorem tk_tk (v w : List Int32) (x : Int32) (cap : Nat) : ((v ++ w).take cap ++ [x]).take cap = (v ++ (w ++ [x])).take cap := by
  rw [← List.append_assoc]
  by_cases h : (v ++ w).length ≤ cap
  · rw [List.take_of_length_le h]
  · have h2 : ((v ++ w).take cap).length = cap := by rw [List.length_take]; omega
    rw [tk_ge h2]
    exact (List.take_append_of_le_length (by omega)).symm
/-- place i, 0 where there is none -/
def ya (v : List Int32) (i : Int32) : Int32 := if i < 0 then 0 else v.getD i.toNatClampNeg 0
def yset (v : List Int32) (i x : Int32) : List Int32 := if i < 0 then v else v.set i.toNatClampNeg (x &&& 255)
theorem ys_set {I : cn_I} {b j : Nat} {v : List Int32} {x : Int32} (h : ys I b v) (hj : j < v.length) : ys (cn_wi I (b + 1) j (vp_nar .byte x.toInt8.toInt32)) b (v.set j (x &&& 255)) := by
  refine ⟨by rw [cn_wi_ne (by omega), List.length_set]; exact h.1, fun i hi => ?_, fun y hy => ?_⟩
  · rw [List.length_set] at hi
    rw [cn_wi_row]
    by_cases e : i = j
    · subst e
      simp only [upd, if_true]
      rw [b8_nar, List.getD_eq_getElem?_getD, List.getElem?_set_self hj]
      rfl
    · simp only [upd, if_neg e]
      rw [h.2.1 i hi, List.getD_eq_getElem?_getD, List.getD_eq_getElem?_getD, List.getElem?_set_ne (Ne.symm e)]
  · rcases List.mem_or_eq_of_mem_set hy with h1 | h1
    · exact h.2.2 y h1
    · rw [h1]
      exact b8_idem x
theorem ys_app {I : cn_I} {b c n : Nat} {v w : List Int32} (h : ys I b v) (hw : ys I c w) (hn : n ≤ w.length) (hbc : c + 1 ≠ b) (hbc' : c ≠ b) : ys (cn_wi (cn_wr I (b + 1) (va_cpy (I (c + 1)) (I (b + 1)) 0 v.length n)) b 1 (nI (v.length + n))) b (v ++ w.take n) := by
  have hl : (v ++ w.take n).length = v.length + n := by rw [List.length_append, List.length_take]; omega
  refine ⟨by rw [hl]; simp [cn_wi, upd], fun j hj => ?_, fun y hy => ?_⟩
  · rw [hl] at hj
    rw [cn_wi_ne (by omega), cn_wr_row]
    by_cases e : j < v.length
    · rw [pk_cpy_out (Or.inl e), h.2.1 j e, gd_l e]
    · rw [pk_cpy_in (by omega) (by omega), Nat.zero_add, hw.2.1 _ (by omega)]
      rw [gd_r (by omega)]
      rw [List.getD_eq_getElem?_getD, List.getD_eq_getElem?_getD, List.getElem?_take_of_lt (by omega)]
  · rcases List.mem_append.mp hy with h1 | h1
    · exact h.2.2 y h1
    · exact hw.2.2 y (List.mem_of_mem_take h1)
theorem fr2_app {I : cn_I} {b k : Nat} {f : Nat → Int32} {z : Int32} : fr2 I (cn_wi (cn_wr I (b + 1) f) b k z) b := fun a h1 h2 => by rw [cn_wi_ne h1, cn_wr_ne h2]
section
variable {l : Launch} {en : cn_E} {d : Nat} {S : cn_S} {I : cn_I} {P : cn_P} {Q : Option Value → cn_S → cn_I → cn_P → Prop}
theorem c_By_clear {b cap : Nat} (hb : yb S P b cap) (K : ∀ I', ys I' b [] → fr2 I I' b → Q none S I' P) : cn_V l en mi_By_clear d 0 0 S I P Q 0 [(0, .ref b)] [] := by
  obtain ⟨ho, hp, ha, hcap⟩ := hb
  refine cn_aload_n (pc' := 1) (k := 0) rfl rfl d_By_clear_0 rfl ?_
  refine cn_iconst (pc' := 2) k_c_0 d_By_clear_1 rfl ?_
  refine cn_putI (pc' := 5) fl_By_13 ho rfl rfl rfl rfl d_By_clear_2 rfl ?_
  refine cn_vret rfl d_By_clear_5 ?_
  exact K _ ys_clear fr2_clear
theorem c_By_add {b cap : Nat} {v : List Int32} {x : Int32} (hb : yb S P b cap) (hy : ys I b v) (hc : v.length ≤ cap) (K : ∀ I', ys I' b ((v ++ [x &&& 255]).take cap) → fr2 I I' b → Q none S I' P) : cn_V l en mi_By_add d 0 0 S I P Q 0 [(0, .ref b), (1, .int x)] [] := by
  obtain ⟨ho, hp, ha, hcap⟩ := hb
  refine cn_aload_n (pc' := 1) (k := 0) rfl rfl d_By_add_0 rfl ?_
  refine cn_getIv (pc' := 4) (v := nI (v.length)) hy.1 fl_By_13 ho rfl d_By_add_1 rfl ?_
  refine cn_aload_n (pc' := 5) (k := 0) rfl rfl d_By_add_4 rfl ?_
  refine cn_getP (pc' := 8) (b := (b + 1)) hp fl_By_7 ho rfl d_By_add_5 rfl ?_
  refine cn_alen (pc' := 9) ha (by decide) d_By_add_8 rfl ?_
  refine cn_icmp_ge_n (tgt := 33) (pc' := 12) (by omega) (by omega) d_By_add_9 (by decide) rfl (fun hc9 => ?_) (fun hc9 => ?_)
  · refine cn_vret rfl d_By_add_33 ?_
    exact K _ (by rw [tk_ge (by omega)]; exact hy) fr2.rf
  · refine cn_aload_n (pc' := 13) (k := 0) rfl rfl d_By_add_12 rfl ?_
    refine cn_getP (pc' := 16) (b := (b + 1)) hp fl_By_7 ho rfl d_By_add_13 rfl ?_
    refine cn_aload_n (pc' := 17) (k := 0) rfl rfl d_By_add_16 rfl ?_
    refine cn_getIv (pc' := 20) (v := nI (v.length)) hy.1 fl_By_13 ho rfl d_By_add_17 rfl ?_
    refine cn_iload_n (pc' := 21) (k := 1) rfl rfl d_By_add_20 rfl ?_
    refine cn_i2b (pc' := 22) d_By_add_21 rfl ?_
    refine cn_bast (pc' := 23) ha (by omega) (by omega) d_By_add_22 rfl ?_
    refine cn_aload_n (pc' := 24) (k := 0) rfl rfl d_By_add_23 rfl ?_
    refine cn_dup (pc' := 25) rfl d_By_add_24 rfl ?_
    refine cn_getIv (pc' := 28) (v := nI (v.length)) (by simp [cn_wi, cn_wr, upd, hy.1]) fl_By_13 ho rfl d_By_add_25 rfl ?_
    refine cn_iconst (pc' := 29) k_c_1 d_By_add_28 rfl ?_
    refine cn_iadd_n (pc' := 30) d_By_add_29 rfl ?_
    refine cn_putI (pc' := 33) fl_By_13 ho rfl rfl rfl rfl d_By_add_30 rfl ?_
    refine cn_vret rfl d_By_add_33 ?_
    exact K _ (by rw [tk_lt (by omega)]; exact ys_push hy) fr2_push
theorem c_By_at {b cap : Nat} {v : List Int32} {i : Int32} (hb : yb S P b cap) (hy : ys I b v) (hc : v.length ≤ cap) (K : Q (some (.int (ya v i))) S I P) : cn_V l en mi_By_at d 0 0 S I P Q 0 [(0, .ref b), (1, .int i)] [] := by
  obtain ⟨ho, hp, ha, hcap⟩ := hb
  refine cn_iload_n (pc' := 1) (k := 1) rfl rfl d_By_at_0 rfl ?_
  refine cn_if_lt (tgt := 25) (pc' := 4) d_By_at_1 (by decide) rfl (fun hc1 => ?_) (fun hc1 => ?_)
  · refine cn_iconst (pc' := 26) k_c_0 d_By_at_25 rfl ?_
    refine cn_iret rfl d_By_at_26 ?_
    exact (show ya v i = nI 0 by unfold ya; rw [if_pos hc1]; rfl) ▸ K
  · obtain ⟨j, hj, rfl⟩ := nI_of hc1
    refine cn_iload_n (pc' := 5) (k := 1) rfl rfl d_By_at_4 rfl ?_
    refine cn_aload_n (pc' := 6) (k := 0) rfl rfl d_By_at_5 rfl ?_
    refine cn_getIv (pc' := 9) (v := nI (v.length)) hy.1 fl_By_13 ho rfl d_By_at_6 rfl ?_
    refine cn_icmp_ge_n (tgt := 25) (pc' := 12) (by omega) (by omega) d_By_at_9 (by decide) rfl (fun hc9 => ?_) (fun hc9 => ?_)
    · refine cn_iconst (pc' := 26) k_c_0 d_By_at_25 rfl ?_
      refine cn_iret rfl d_By_at_26 ?_
      exact (show ya v (nI j) = nI 0 by unfold ya; rw [if_neg (nI_pos hj), nI_clamp hj, List.getD_eq_getElem?_getD, List.getElem?_eq_none (by omega)]; rfl) ▸ K
    · refine cn_aload_n (pc' := 13) (k := 0) rfl rfl d_By_at_12 rfl ?_
      refine cn_getP (pc' := 16) (b := (b + 1)) hp fl_By_7 ho rfl d_By_at_13 rfl ?_
      refine cn_iload_n (pc' := 17) (k := 1) rfl rfl d_By_at_16 rfl ?_
      refine cn_baldv (pc' := 18) (v := vp_nar .byte (v.getD j 0)) (hy.2.1 _ (by omega)) ha (by omega) (by omega) d_By_at_17 rfl ?_
      refine cn_sipush (pc' := 21) k_s_255 d_By_at_18 rfl ?_
      refine cn_iand (pc' := 22) d_By_at_21 rfl ?_
      refine cn_goto (tgt := 26) d_By_at_22 (by decide) ?_
      refine cn_iret rfl d_By_at_26 ?_
      exact (show ya v (nI j) = (vp_nar .byte (v.getD j 0)) &&& (nI (255)) by unfold ya; rw [if_neg (nI_pos hj), nI_clamp hj]; exact (b8_and (hy.by8 (by omega))).symm) ▸ K
theorem c_By_set {b cap : Nat} {v : List Int32} {i x : Int32} (hb : yb S P b cap) (hy : ys I b v) (hc : v.length ≤ cap) (K : ∀ I', ys I' b (yset v i x) → fr2 I I' b → Q none S I' P) : cn_V l en mi_By_set d 0 0 S I P Q 0 [(0, .ref b), (1, .int i), (2, .int x)] [] := by
  obtain ⟨ho, hp, ha, hcap⟩ := hb
  refine cn_iload_n (pc' := 1) (k := 1) rfl rfl d_By_set_0 rfl ?_
  refine cn_if_lt (tgt := 20) (pc' := 4) d_By_set_1 (by decide) rfl (fun hc1 => ?_) (fun hc1 => ?_)
  · refine cn_vret rfl d_By_set_20 ?_
    exact K _ (by unfold yset; rw [if_pos hc1]; exact hy) fr2.rf
  · obtain ⟨j, hj, rfl⟩ := nI_of hc1
    refine cn_iload_n (pc' := 5) (k := 1) rfl rfl d_By_set_4 rfl ?_
    refine cn_aload_n (pc' := 6) (k := 0) rfl rfl d_By_set_5 rfl ?_
    refine cn_getIv (pc' := 9) (v := nI (v.length)) hy.1 fl_By_13 ho rfl d_By_set_6 rfl ?_
    refine cn_icmp_ge_n (tgt := 20) (pc' := 12) (by omega) (by omega) d_By_set_9 (by decide) rfl (fun hc9 => ?_) (fun hc9 => ?_)
    · refine cn_vret rfl d_By_set_20 ?_
      exact K _ (by unfold yset; rw [if_neg (nI_pos hj), nI_clamp hj, List.set_eq_of_length_le (by omega)]; exact hy) fr2.rf
    · refine cn_aload_n (pc' := 13) (k := 0) rfl rfl d_By_set_12 rfl ?_
      refine cn_getP (pc' := 16) (b := (b + 1)) hp fl_By_7 ho rfl d_By_set_13 rfl ?_
      refine cn_iload_n (pc' := 17) (k := 1) rfl rfl d_By_set_16 rfl ?_
      refine cn_iload_n (pc' := 18) (k := 2) rfl rfl d_By_set_17 rfl ?_
      refine cn_i2b (pc' := 19) d_By_set_18 rfl ?_
      refine cn_bast (pc' := 20) ha (by omega) (by omega) d_By_set_19 rfl ?_
      refine cn_vret rfl d_By_set_20 ?_
      exact K _ (by unfold yset; rw [if_neg (nI_pos hj), nI_clamp hj]; exact ys_set hy (by omega)) (fun _ _ h2 => cn_wi_ne h2)
theorem c_By_addNumber_loop {b cap : Nat} {v : List Int32} {x : Int64} {n : Nat} (hb : yb S P b cap) (hn : n ≤ 8) (hd1 : 1 ≤ d) (hc0 : v.length ≤ cap) (I0 : cn_I) (K : ∀ I', ys I' b ((v ++ lbs x n).take cap) → fr2 I0 I' b → Q none S I' P) : ∀ (k i : Nat) (I : cn_I), i + k = n → ys I b ((v ++ lbs x i).take cap) → fr2 I0 I b → cn_V l en mi_By_addNumber d 0 0 S I P Q 3 [(0, .ref b), (1, .long x), (3, .int (nI n)), (4, .int (nI i))] [] := by
  intro k
  induction k with
  | zero =>
    intro i I hik hyi hf0
    have hb0 := hb
    obtain ⟨ho, hp, ha, hcap⟩ := hb0
    refine cn_iload (pc' := 5) (k := 3) rfl d_By_addNumber_3 rfl ?_
    refine cn_iload_n (pc' := 6) (k := 2) rfl rfl d_By_addNumber_5 rfl ?_
    refine cn_icmp_ge_n (tgt := 27) (pc' := 9) (by omega) (by omega) d_By_addNumber_6 (by decide) rfl (fun hc6 => ?_) (fun hc6 => ?_)
    · refine cn_vret rfl d_By_addNumber_27 ?_
      have e : i = n := by omega
      subst e
      exact K _ hyi hf0
    · exact absurd hc6 (by omega)
  | succ k ih =>
    intro i I hik hyi hf0
    have hb0 := hb
    obtain ⟨ho, hp, ha, hcap⟩ := hb0
    refine cn_iload (pc' := 5) (k := 3) rfl d_By_addNumber_3 rfl ?_
    refine cn_iload_n (pc' := 6) (k := 2) rfl rfl d_By_addNumber_5 rfl ?_
    refine cn_icmp_ge_n (tgt := 27) (pc' := 9) (by omega) (by omega) d_By_addNumber_6 (by decide) rfl (fun hc6 => ?_) (fun hc6 => ?_)
    · exact absurd hc6 (by omega)
    · refine cn_aload_n (pc' := 10) (k := 0) rfl rfl d_By_addNumber_9 rfl ?_
      refine cn_lload_n (pc' := 11) (k := 1) rfl rfl d_By_addNumber_10 rfl ?_
      refine cn_bipush (pc' := 13) k_b_8 d_By_addNumber_11 rfl ?_
      refine cn_iload (pc' := 15) (k := 3) rfl d_By_addNumber_13 rfl ?_
      refine cn_imul_n (pc' := 16) d_By_addNumber_15 rfl ?_
      refine cn_lshr (pc' := 17) d_By_addNumber_16 rfl ?_
      refine cn_l2i (pc' := 18) d_By_addNumber_17 rfl ?_
      refine cn_callV (pc' := 21) (kc1 := 0) (ks1 := 0) (kc2 := 0) (ks2 := 0) (rest := []) (lvj := [(0, .ref b), (1, .int (((x) >>> (((nI (8 * i))).toInt64 &&& 63)).toInt32))]) [.int (((x) >>> (((nI (8 * i))).toInt64 &&& 63)).toInt32)] mv_By_17 ho rfl rfl rfl (Nat.le_of_ble_eq_true rfl) (Nat.le_of_ble_eq_true rfl) (by omega) (by omega) (by omega) d_By_addNumber_18 rfl ?_
      refine c_By_add (cap := cap) hb hyi (by rw [List.length_take]; omega) (fun I1 hy1 hf1 => ?_)
      show cn_V l en mi_By_addNumber d 0 0 S I1 P Q 21 [(0, .ref b), (1, .long (x)), (3, .int (nI (n))), (4, .int (nI (i)))] []
      refine cn_iinc_n (pc' := 24) (lv' := [(0, .ref b), (1, .long (x)), (3, .int (nI (n))), (4, .int (nI (i + 1)))]) (k := 3) [1, 2, 3, 0] rfl (Nat.le_of_ble_eq_true rfl) rfl d_By_addNumber_21 rfl ?_
      refine cn_goto (tgt := 3) d_By_addNumber_24 (by decide) ?_
      refine ih (i + 1) I1 (by omega) ?_ (hf0.tr hf1)
      rw [lbs_succ, ← tk_tk]
      exact hy1
theorem c_By_addNumber {b cap : Nat} {v : List Int32} {x : Int64} {n : Nat} (hb : yb S P b cap) (hy : ys I b v) (hc : v.length ≤ cap) (hn : n ≤ 8) (hd1 : 1 ≤ d) (K : ∀ I', ys I' b ((v ++ lbs x n).take cap) → fr2 I I' b → Q none S I' P) : cn_V l en mi_By_addNumber d 0 0 S I P Q 0 [(0, .ref b), (1, .long x), (3, .int (nI n))] [] := by
  refine cn_iconst (pc' := 1) k_c_0 d_By_addNumber_0 rfl ?_
  refine cn_istore (pc' := 3) (lv' := [(0, .ref b), (1, .long (x)), (3, .int (nI (n))), (4, .int (nI (0)))]) [1, 2, 3, 0] (Nat.le_of_ble_eq_true rfl) rfl d_By_addNumber_1 rfl ?_
  exact c_By_addNumber_loop hb hn hd1 hc I K n 0 I (by omega) (by rw [show lbs x 0 = [] from rfl, List.append_nil, List.take_of_length_le hc]; exact hy) fr2.rf
theorem c_By_append {b c cap cap2 : Nat} {v w : List Int32} (hb : yb S P b cap) (hy : ys I b v) (hc : v.length ≤ cap) (hb2 : yb S P c cap2) (hy2 : ys I c w) (hc2 : w.length ≤ cap2) (hbc : c ≠ b) (hbc1 : c + 1 ≠ b) (hd1 : 1 ≤ d) (K : ∀ I', ys I' b ((v ++ w).take cap) → fr2 I I' b → Q none S I' P) : cn_V l en mi_By_append d 0 0 S I P Q 0 [(0, .ref b), (1, .ref c)] [] := by
  obtain ⟨ho, hp, ha, hcap⟩ := hb
  obtain ⟨ho2, hp2, ha2, hcap2⟩ := hb2
  obtain ⟨n, hn⟩ : ∃ n, n = min w.length (cap - v.length) := ⟨_, rfl⟩
  have hmin : (if nI (cap - v.length) < nI w.length then nI (cap - v.length) else nI w.length) = nI n := by
    by_cases h : cap - v.length < w.length
    · rw [if_pos ((nI_ltI (by omega) (by omega)).mpr h), hn]; congr 1; omega
    · rw [if_neg (fun q => h ((nI_ltI (by omega) (by omega)).mp q)), hn]; congr 1; omega
  refine cn_aload_n (pc' := 1) (k := 1) rfl rfl d_By_append_0 rfl ?_
  refine cn_getIv (pc' := 4) (v := nI (w.length)) hy2.1 fl_By_13 ho2 rfl d_By_append_1 rfl ?_
  refine cn_aload_n (pc' := 5) (k := 0) rfl rfl d_By_append_4 rfl ?_
  refine cn_getP (pc' := 8) (b := (b + 1)) hp fl_By_7 ho rfl d_By_append_5 rfl ?_
  refine cn_alen (pc' := 9) ha (by decide) d_By_append_8 rfl ?_
  refine cn_aload_n (pc' := 10) (k := 0) rfl rfl d_By_append_9 rfl ?_
  refine cn_getIv (pc' := 13) (v := nI (v.length)) hy.1 fl_By_13 ho rfl d_By_append_10 rfl ?_
  refine cn_isub_n (pc' := 14) (by omega) d_By_append_13 rfl ?_
  refine cn_mmin (pc' := 17) w_st_By_21 w_min_s w_math w_min_c (by omega) (Nat.le_of_ble_eq_true rfl) d_By_append_14 rfl ?_
  rw [hmin]
  refine cn_istore_n (pc' := 18) (lv' := [(0, .ref b), (1, .ref c), (2, .int (nI (n)))]) rfl [1, 2, 0] (Nat.le_of_ble_eq_true rfl) rfl d_By_append_17 rfl ?_
  refine cn_aload_n (pc' := 19) (k := 1) rfl rfl d_By_append_18 rfl ?_
  refine cn_getP (pc' := 22) (b := (c + 1)) hp2 fl_By_7 ho2 rfl d_By_append_19 rfl ?_
  refine cn_iconst (pc' := 23) k_c_0 d_By_append_22 rfl ?_
  refine cn_aload_n (pc' := 24) (k := 0) rfl rfl d_By_append_23 rfl ?_
  refine cn_getP (pc' := 27) (b := (b + 1)) hp fl_By_7 ho rfl d_By_append_24 rfl ?_
  refine cn_aload_n (pc' := 28) (k := 0) rfl rfl d_By_append_27 rfl ?_
  refine cn_getIv (pc' := 31) (v := nI (v.length)) hy.1 fl_By_13 ho rfl d_By_append_28 rfl ?_
  refine cn_iload_n (pc' := 32) (k := 2) rfl rfl d_By_append_31 rfl ?_
  refine cn_copy (pc' := 35) w_st_By_27 w_ac_n w_ac_s w_sys ha2 ha (by omega) (by omega) (by omega) (by omega) (by omega) (Nat.le_of_ble_eq_true rfl) d_By_append_32 rfl ?_
  refine cn_aload_n (pc' := 36) (k := 0) rfl rfl d_By_append_35 rfl ?_
  refine cn_dup (pc' := 37) rfl d_By_append_36 rfl ?_
  refine cn_getIv (pc' := 40) (v := nI (v.length)) (by simp [cn_wi, cn_wr, upd, hy.1]) fl_By_13 ho rfl d_By_append_37 rfl ?_
  refine cn_iload_n (pc' := 41) (k := 2) rfl rfl d_By_append_40 rfl ?_
  refine cn_iadd_n (pc' := 42) d_By_append_41 rfl ?_
  refine cn_putI (pc' := 45) fl_By_13 ho rfl rfl rfl rfl d_By_append_42 rfl ?_
  refine cn_vret rfl d_By_append_45 ?_
  refine K _ ?_ fr2_app
  have e : (v ++ w).take cap = v ++ w.take n := by
    rw [List.take_append, List.take_of_length_le hc]
    congr 1
    rw [hn]
    by_cases h : w.length ≤ cap - v.length
    · rw [List.take_of_length_le h, List.take_of_length_le (by omega)]
    · congr 1; omega
  rw [e]
  exact ys_app hy hy2 (by omega) hbc1 hbc
theorem c_By_isSameAs_loop {b c cap cap2 : Nat} {v w : List Int32} (hb : yb S P b cap) (hy : ys I b v) (hc : v.length ≤ cap) (hb2 : yb S P c cap2) (hy2 : ys I c w) (hc2 : w.length ≤ cap2) (hlen : v.length = w.length) (K1 : v = w → Q (some (.int (nI 1))) S I P) (K0 : v ≠ w → Q (some (.int (nI 0))) S I P) : ∀ k i : Nat, i + k = v.length → (∀ j, j < i → v.getD j 0 = w.getD j 0) → cn_V l en mi_By_isSameAs d 0 0 S I P Q 15 [(0, .ref b), (1, .ref c), (2, .int (nI i))] [] := by
  obtain ⟨ho, hp, ha, hcap⟩ := hb
  obtain ⟨ho2, hp2, ha2, hcap2⟩ := hb2
  intro k
  induction k with
  | zero =>
    intro i hik heq
    refine cn_iload_n (pc' := 16) (k := 2) rfl rfl d_By_isSameAs_15 rfl ?_
    refine cn_aload_n (pc' := 17) (k := 0) rfl rfl d_By_isSameAs_16 rfl ?_
    refine cn_getIv (pc' := 20) (v := nI (v.length)) hy.1 fl_By_13 ho rfl d_By_isSameAs_17 rfl ?_
    refine cn_icmp_ge_n (tgt := 46) (pc' := 23) (by omega) (by omega) d_By_isSameAs_20 (by decide) rfl (fun hc20 => ?_) (fun hc20 => ?_)
    · refine cn_iconst (pc' := 47) k_c_1 d_By_isSameAs_46 rfl ?_
      refine cn_zret rfl (Or.inr rfl) d_By_isSameAs_47 ?_
      refine K1 (List.ext_getElem? (fun j => ?_))
      by_cases hj : j < v.length
      · have h := heq j (by omega)
        rw [List.getD_eq_getElem?_getD, List.getD_eq_getElem?_getD, List.getElem?_eq_getElem hj, List.getElem?_eq_getElem (by omega)] at h
        rw [List.getElem?_eq_getElem hj, List.getElem?_eq_getElem (by omega)]
        exact congrArg some h
      · rw [List.getElem?_eq_none (by omega), List.getElem?_eq_none (by omega)]
    · exact absurd hc20 (by omega)
  | succ k ih =>
    intro i hik heq
    refine cn_iload_n (pc' := 16) (k := 2) rfl rfl d_By_isSameAs_15 rfl ?_
    refine cn_aload_n (pc' := 17) (k := 0) rfl rfl d_By_isSameAs_16 rfl ?_
    refine cn_getIv (pc' := 20) (v := nI (v.length)) hy.1 fl_By_13 ho rfl d_By_isSameAs_17 rfl ?_
    refine cn_icmp_ge_n (tgt := 46) (pc' := 23) (by omega) (by omega) d_By_isSameAs_20 (by decide) rfl (fun hc20 => ?_) (fun hc20 => ?_)
    · exact absurd hc20 (by omega)
    · refine cn_aload_n (pc' := 24) (k := 0) rfl rfl d_By_isSameAs_23 rfl ?_
      refine cn_getP (pc' := 27) (b := (b + 1)) hp fl_By_7 ho rfl d_By_isSameAs_24 rfl ?_
      refine cn_iload_n (pc' := 28) (k := 2) rfl rfl d_By_isSameAs_27 rfl ?_
      refine cn_baldv (pc' := 29) (v := vp_nar .byte (v.getD i 0)) (hy.2.1 _ (by omega)) ha (by omega) (by omega) d_By_isSameAs_28 rfl ?_
      refine cn_aload_n (pc' := 30) (k := 1) rfl rfl d_By_isSameAs_29 rfl ?_
      refine cn_getP (pc' := 33) (b := (c + 1)) hp2 fl_By_7 ho2 rfl d_By_isSameAs_30 rfl ?_
      refine cn_iload_n (pc' := 34) (k := 2) rfl rfl d_By_isSameAs_33 rfl ?_
      refine cn_baldv (pc' := 35) (v := vp_nar .byte (w.getD i 0)) (hy2.2.1 _ (by omega)) ha2 (by omega) (by omega) d_By_isSameAs_34 rfl ?_
      refine cn_icmp_eq (tgt := 40) (pc' := 38) d_By_isSameAs_35 (by decide) rfl (fun hc35 => ?_) (fun hc35 => ?_)
      · refine cn_iinc_n (pc' := 43) (lv' := [(0, .ref b), (1, .ref c), (2, .int (nI (i + 1)))]) (k := 2) [1, 2, 0] rfl (Nat.le_of_ble_eq_true rfl) rfl d_By_isSameAs_40 rfl ?_
        refine cn_goto (tgt := 15) d_By_isSameAs_43 (by decide) ?_
        exact ih (i + 1) (by omega) (lt_s heq (b8_inj (hy.by8 (by omega)) (hy2.by8 (by omega)) hc35))
      · refine cn_iconst (pc' := 39) k_c_0 d_By_isSameAs_38 rfl ?_
        refine cn_zret rfl (Or.inl rfl) d_By_isSameAs_39 ?_
        exact K0 (fun e => hc35 (by rw [e]))
theorem c_By_isSameAs {b c cap cap2 : Nat} {v w : List Int32} (hb : yb S P b cap) (hy : ys I b v) (hc : v.length ≤ cap) (hb2 : yb S P c cap2) (hy2 : ys I c w) (hc2 : w.length ≤ cap2) (K1 : v = w → Q (some (.int (nI 1))) S I P) (K0 : v ≠ w → Q (some (.int (nI 0))) S I P) : cn_V l en mi_By_isSameAs d 0 0 S I P Q 0 [(0, .ref b), (1, .ref c)] [] := by
  have hb0 := hb
  have hb20 := hb2
  obtain ⟨ho, hp, ha, hcap⟩ := hb0
  obtain ⟨ho2, hp2, ha2, hcap2⟩ := hb20
  refine cn_aload_n (pc' := 1) (k := 0) rfl rfl d_By_isSameAs_0 rfl ?_
  refine cn_getIv (pc' := 4) (v := nI (v.length)) hy.1 fl_By_13 ho rfl d_By_isSameAs_1 rfl ?_
  refine cn_aload_n (pc' := 5) (k := 1) rfl rfl d_By_isSameAs_4 rfl ?_
  refine cn_getIv (pc' := 8) (v := nI (w.length)) hy2.1 fl_By_13 ho2 rfl d_By_isSameAs_5 rfl ?_
  refine cn_icmp_eq_n (tgt := 13) (pc' := 11) (by omega) (by omega) d_By_isSameAs_8 (by decide) rfl (fun hc8 => ?_) (fun hc8 => ?_)
  · refine cn_iconst (pc' := 14) k_c_0 d_By_isSameAs_13 rfl ?_
    refine cn_istore_n (pc' := 15) (lv' := [(0, .ref b), (1, .ref c), (2, .int (nI (0)))]) rfl [1, 2, 0] (Nat.le_of_ble_eq_true rfl) rfl d_By_isSameAs_14 rfl ?_
    exact c_By_isSameAs_loop hb hy hc hb2 hy2 hc2 hc8 K1 K0 v.length 0 (by omega) (fun j h => absurd h (Nat.not_lt_zero j))
  · refine cn_iconst (pc' := 12) k_c_0 d_By_isSameAs_11 rfl ?_
    refine cn_zret rfl (Or.inl rfl) d_By_isSameAs_12 ?_
    exact K0 (fun e => hc8 (by rw [e]))
end
end
section
def ym (S : cn_S) (P : cn_P) (m : Nat) : Prop := cn_ob S m 3 ∧ P m 0 = some (m + 1) ∧ yb S P (m + 1) 64
/-- the message holds the bytes g of which p have been read; w: well formed so far -/
def rd (I : cn_I) (m : Nat) (g : List Int32) (p : Nat) (w : Bool) : Prop := ys I (m + 1) g ∧ I m 1 = nI p ∧ I m 2 = nI w.toNat ∧ p ≤ g.length ∧ g.length ≤ 64
def fr1 (I I' : cn_I) (m : Nat) : Prop := ∀ a, a ≠ m → I' a = I a
theorem fr1.rf {I : cn_I} {m : Nat} : fr1 I I m := fun _ _ => rfl
theorem fr1.tr {I I1 I2 : cn_I} {b : Nat} (h1 : fr1 I I1 b) (h2 : fr1 I1 I2 b) : fr1 I I2 b := fun a x => (h2 a x).trans (h1 a x)
theorem rd.keep {I I' : cn_I} {m b : Nat} {g : List Int32} {p : Nat} {w : Bool} (h : rd I m g p w) (hf : fr2 I I' b) (h1 : m ≠ b) (h2 : m ≠ b + 1) (h3 : m + 1 ≠ b) (h4 : m + 2 ≠ b) : rd I' m g p w :=
  ⟨h.1.keep hf h3 (by omega) h4, by rw [hf m h1 h2]; exact h.2.1, by rw [hf m h1 h2]; exact h.2.2.1, h.2.2.2⟩
theorem ys.keep1 {I I' : cn_I} {b m : Nat} {v : List Int32} (h : ys I b v) (hf : fr1 I I' m) (h1 : b ≠ m) (h2 : b + 1 ≠ m) : ys I' b v := h.congr (hf b h1) (hf (b + 1) h2)
theorem rd.g8 {I : cn_I} {m : Nat} {g : List Int32} {p : Nat} {w : Bool} (h : rd I m g p w) (j : Nat) : g.getD j 0 &&& 255 = g.getD j 0 := by
  by_cases hj : j < g.length
  · exact h.1.by8 hj
  · rw [List.getD_eq_getElem?_getD, List.getElem?_eq_none (by omega)]; rfl
abbrev rp (g : List Int32) (p k : Nat) : Nat := min (p + k) g.length
abbrev rw_ (g : List Int32) (p k : Nat) (w : Bool) : Bool := w && decide (p + k ≤ g.length)
theorem rp_add (g : List Int32) (p j k : Nat) : rp g (rp g p j) k = rp g p (j + k) := by unfold rp; omega
theorem rw_add (g : List Int32) (p j k : Nat) (w : Bool) : rw_ g (rp g p j) k (rw_ g p j w) = rw_ g p (j + k) w := by
  unfold rw_ rp
  cases w
  · rfl
  · by_cases h : p + j ≤ g.length
    · rw [Nat.min_eq_left h]
      simp [h, Nat.add_assoc]
    · have h2 : ¬ p + (j + k) ≤ g.length := by omega
      simp [h, h2]
theorem gd_rp (g : List Int32) (p k : Nat) : g.getD (rp g p k) 0 = g.getD (p + k) 0 := by
  unfold rp
  by_cases h : p + k ≤ g.length
  · rw [Nat.min_eq_left h]
  · rw [Nat.min_eq_right (by omega), List.getD_eq_getElem?_getD, List.getD_eq_getElem?_getD, List.getElem?_eq_none (by omega), List.getElem?_eq_none (by omega)]
def num2 (a b : Int32) : Int32 := a ||| b <<< (nI 8 &&& 31)
def num4 (a b c e : Int32) : Int32 := ((a ||| b <<< (nI 8 &&& 31)) ||| c <<< (nI 16 &&& 31)) ||| e <<< (nI 24 &&& 31)
def rn2 (g : List Int32) (p : Nat) : Int32 := num2 (g.getD p 0) (g.getD (p + 1) 0)
def rn4 (g : List Int32) (p : Nat) : Int32 := num4 (g.getD p 0) (g.getD (p + 1) 0) (g.getD (p + 2) 0) (g.getD (p + 3) 0)
theorem rd_bad {I : cn_I} {m : Nat} {g : List Int32} {p : Nat} {w : Bool} (h : rd I m g p w) : rd (cn_wi I m 2 (nI 0)) m g p false := by
  refine ⟨h.1.congr (cn_wi_ne (by omega)) (cn_wi_ne (by omega)), ?_, ?_, h.2.2.2⟩
  · rw [cn_wi_row]; exact h.2.1
  · rw [cn_wi_row]; rfl
theorem rd_next {I : cn_I} {m : Nat} {g : List Int32} {p : Nat} {w : Bool} (h : rd I m g p w) (hp : p < g.length) : rd (cn_wi I m 1 (nI (p + 1))) m g (p + 1) w := by
  refine ⟨h.1.congr (cn_wi_ne (by omega)) (cn_wi_ne (by omega)), ?_, ?_, by omega, h.2.2.2.2⟩
  · rw [cn_wi_row]; rfl
  · rw [cn_wi_row]; exact h.2.2.1
section
variable {l : Launch} {en : cn_E} {d : Nat} {S : cn_S} {I : cn_I} {P : cn_P} {Q : Option Value → cn_S → cn_I → cn_P → Prop}
variable {m : Nat} {g : List Int32} {p : Nat} {w : Bool}
theorem c_Me_startReading (hm : ym S P m) (hy : ys I (m + 1) g) (hg : g.length ≤ 64) (K : ∀ I', rd I' m g 0 true → fr1 I I' m → Q none S I' P) : cn_V l en mi_Me_startReading d 0 0 S I P Q 0 [(0, .ref m)] [] := by
  refine cn_aload_n (pc' := 1) (k := 0) rfl rfl d_Me_startReading_0 rfl ?_
  refine cn_iconst (pc' := 2) k_c_0 d_Me_startReading_1 rfl ?_
  refine cn_putI (pc' := 5) fl_Me_20 hm.1 rfl rfl rfl rfl d_Me_startReading_2 rfl ?_
  refine cn_aload_n (pc' := 6) (k := 0) rfl rfl d_Me_startReading_5 rfl ?_
  refine cn_iconst (pc' := 7) k_c_1 d_Me_startReading_6 rfl ?_
  refine cn_putI (pc' := 10) fl_Me_24 hm.1 rfl rfl rfl rfl d_Me_startReading_7 rfl ?_
  refine cn_vret rfl d_Me_startReading_10 ?_
  exact K _ ⟨hy.congr (by rw [cn_wi_ne (by omega), cn_wi_ne (by omega)]) (by rw [cn_wi_ne (by omega), cn_wi_ne (by omega)]), by simp [cn_wi, upd], by simp [cn_wi, upd], Nat.zero_le _, hg⟩ (fun a h => by rw [cn_wi_ne h, cn_wi_ne h])
theorem c_Me_left (hm : ym S P m) (hr : rd I m g p w) (K : Q (some (.int (nI (g.length - p)))) S I P) : cn_V l en mi_Me_left d 0 0 S I P Q 0 [(0, .ref m)] [] := by
  have hlen := hr.2.2.2.1
  have hlen2 := hr.2.2.2.2
  refine cn_aload_n (pc' := 1) (k := 0) rfl rfl d_Me_left_0 rfl ?_
  refine cn_getP (pc' := 4) (b := (m + 1)) hm.2.1 fl_Me_14 hm.1 rfl d_Me_left_1 rfl ?_
  refine cn_getIv (pc' := 7) (v := nI (g.length)) hr.1.1 fl_Me_28 hm.2.2.1 rfl d_Me_left_4 rfl ?_
  refine cn_aload_n (pc' := 8) (k := 0) rfl rfl d_Me_left_7 rfl ?_
  refine cn_getIv (pc' := 11) (v := nI (p)) hr.2.1 fl_Me_20 hm.1 rfl d_Me_left_8 rfl ?_
  refine cn_isub_n (pc' := 12) (by omega) d_Me_left_11 rfl ?_
  refine cn_iret rfl d_Me_left_12 ?_
  exact K
theorem c_Me_isReadWhole (hm : ym S P m) (hr : rd I m g p w) (hd1 : 1 ≤ d) (K : Q (some (.int (nI (w && decide (p = g.length)).toNat))) S I P) : cn_V l en mi_Me_isReadWhole d 0 0 S I P Q 0 [(0, .ref m)] [] := by
  have hlen := hr.2.2.2.1
  have hlen2 := hr.2.2.2.2
  have hw1 : w.toNat ≤ 1 := by cases w <;> decide
  refine cn_aload_n (pc' := 1) (k := 0) rfl rfl d_Me_isReadWhole_0 rfl ?_
  refine cn_getIv (pc' := 4) (v := nI (w.toNat)) hr.2.2.1 fl_Me_24 hm.1 rfl d_Me_isReadWhole_1 rfl ?_
  refine cn_if_eq_n (tgt := 18) (pc' := 7) (by omega) d_Me_isReadWhole_4 (by decide) rfl (fun hc4 => ?_) (fun hc4 => ?_)
  · refine cn_iconst (pc' := 19) k_c_0 d_Me_isReadWhole_18 rfl ?_
    refine cn_zret rfl (Or.inl rfl) d_Me_isReadWhole_19 ?_
    rw [show w = false by cases w <;> simp_all] at K
    exact K
  · refine cn_aload_n (pc' := 8) (k := 0) rfl rfl d_Me_isReadWhole_7 rfl ?_
    refine cn_callV (pc' := 11) (kc1 := 0) (ks1 := 0) (kc2 := 0) (ks2 := 0) (rest := []) (lvj := [(0, .ref m)]) [] mv_Me_31 hm.1 rfl rfl rfl (Nat.le_of_ble_eq_true rfl) (Nat.le_of_ble_eq_true rfl) (by omega) (by omega) (by omega) d_Me_isReadWhole_8 rfl ?_
    refine c_Me_left hm hr ?_
    show cn_V l en mi_Me_isReadWhole d 0 0 S I P Q 11 [(0, .ref m)] [.int (nI (g.length - p))]
    refine cn_if_ne_n (tgt := 18) (pc' := 14) (by omega) d_Me_isReadWhole_11 (by decide) rfl (fun hc11 => ?_) (fun hc11 => ?_)
    · refine cn_iconst (pc' := 19) k_c_0 d_Me_isReadWhole_18 rfl ?_
      refine cn_zret rfl (Or.inl rfl) d_Me_isReadWhole_19 ?_
      rw [show decide (p = g.length) = false from decide_eq_false (by omega), Bool.and_false] at K
      exact K
    · refine cn_iconst (pc' := 15) k_c_1 d_Me_isReadWhole_14 rfl ?_
      refine cn_goto (tgt := 19) d_Me_isReadWhole_15 (by decide) ?_
      refine cn_zret rfl (Or.inr rfl) d_Me_isReadWhole_19 ?_
      rw [show w = true by cases w <;> simp_all, show decide (p = g.length) = true from decide_eq_true (by omega)] at K
      exact K
theorem c_Me_readByte (hm : ym S P m) (hr : rd I m g p w) (K : ∀ I', rd I' m g (rp g p 1) (rw_ g p 1 w) → fr1 I I' m → Q (some (.int (g.getD p 0))) S I' P) : cn_V l en mi_Me_readByte d 0 0 S I P Q 0 [(0, .ref m)] [] := by
  have hlen := hr.2.2.2.1
  have hlen2 := hr.2.2.2.2
  refine cn_aload_n (pc' := 1) (k := 0) rfl rfl d_Me_readByte_0 rfl ?_
  refine cn_getIv (pc' := 4) (v := nI (p)) hr.2.1 fl_Me_20 hm.1 rfl d_Me_readByte_1 rfl ?_
  refine cn_aload_n (pc' := 5) (k := 0) rfl rfl d_Me_readByte_4 rfl ?_
  refine cn_getP (pc' := 8) (b := (m + 1)) hm.2.1 fl_Me_14 hm.1 rfl d_Me_readByte_5 rfl ?_
  refine cn_getIv (pc' := 11) (v := nI (g.length)) hr.1.1 fl_Me_28 hm.2.2.1 rfl d_Me_readByte_8 rfl ?_
  refine cn_icmp_lt_n (tgt := 21) (pc' := 14) (by omega) (by omega) d_Me_readByte_11 (by decide) rfl (fun hc11 => ?_) (fun hc11 => ?_)
  · refine cn_aload_n (pc' := 22) (k := 0) rfl rfl d_Me_readByte_21 rfl ?_
    refine cn_dup (pc' := 23) rfl d_Me_readByte_22 rfl ?_
    refine cn_getIv (pc' := 26) (v := nI (p)) hr.2.1 fl_Me_20 hm.1 rfl d_Me_readByte_23 rfl ?_
    refine cn_iconst (pc' := 27) k_c_1 d_Me_readByte_26 rfl ?_
    refine cn_iadd_n (pc' := 28) d_Me_readByte_27 rfl ?_
    refine cn_putI (pc' := 31) fl_Me_20 hm.1 rfl rfl rfl rfl d_Me_readByte_28 rfl ?_
    refine cn_aload_n (pc' := 32) (k := 0) rfl rfl d_Me_readByte_31 rfl ?_
    refine cn_getP (pc' := 35) (b := (m + 1)) hm.2.1 fl_Me_14 hm.1 rfl d_Me_readByte_32 rfl ?_
    refine cn_getP (pc' := 38) (b := (m + 1 + 1)) hm.2.2.2.1 fl_Me_35 hm.2.2.1 rfl d_Me_readByte_35 rfl ?_
    refine cn_aload_n (pc' := 39) (k := 0) rfl rfl d_Me_readByte_38 rfl ?_
    refine cn_getIv (pc' := 42) (v := nI (p + 1)) (by simp [cn_wi, upd]) fl_Me_20 hm.1 rfl d_Me_readByte_39 rfl ?_
    refine cn_iconst (pc' := 43) k_c_1 d_Me_readByte_42 rfl ?_
    refine cn_isub_n (pc' := 44) (by omega) d_Me_readByte_43 rfl ?_
    refine cn_baldv (pc' := 45) (v := vp_nar .byte (g.getD ((p + 1) - 1) 0)) (by rw [cn_wi_ne (by omega)]; exact hr.1.2.1 _ (by omega)) hm.2.2.2.2.1 (by omega) (by omega) d_Me_readByte_44 rfl ?_
    refine cn_sipush (pc' := 48) k_s_255 d_Me_readByte_45 rfl ?_
    refine cn_iand (pc' := 49) d_Me_readByte_48 rfl ?_
    refine cn_iret rfl d_Me_readByte_49 ?_
    have e1 : (vp_nar .byte (g.getD ((p + 1) - 1) 0)) &&& (nI (255)) = g.getD p 0 := by rw [Nat.add_sub_cancel]; exact b8_and (hr.g8 p)
    rw [e1]
    refine K _ ?_ (fun a h => cn_wi_ne h)
    have e2 : rp g p 1 = p + 1 := by unfold rp; omega
    have e3 : rw_ g p 1 w = w := by unfold rw_; rw [decide_eq_true (by omega), Bool.and_true]
    rw [e2, e3]
    exact rd_next hr (by omega)
  · refine cn_aload_n (pc' := 15) (k := 0) rfl rfl d_Me_readByte_14 rfl ?_
    refine cn_iconst (pc' := 16) k_c_0 d_Me_readByte_15 rfl ?_
    refine cn_putI (pc' := 19) fl_Me_24 hm.1 rfl rfl rfl rfl d_Me_readByte_16 rfl ?_
    refine cn_iconst (pc' := 20) k_c_0 d_Me_readByte_19 rfl ?_
    refine cn_iret rfl d_Me_readByte_20 ?_
    have e1 : g.getD p 0 = nI 0 := by rw [List.getD_eq_getElem?_getD, List.getElem?_eq_none (by omega)]; rfl
    rw [e1] at K
    refine K _ ?_ (fun a h => cn_wi_ne h)
    have e2 : rp g p 1 = p := by unfold rp; omega
    have e3 : rw_ g p 1 w = false := by unfold rw_; rw [decide_eq_false (by omega), Bool.and_false]
    rw [e2, e3]
    exact rd_bad hr
theorem c_Me_readNumber (hm : ym S P m) (hr : rd I m g p w) (hd1 : 1 ≤ d) (K : ∀ I', rd I' m g (rp g p 4) (rw_ g p 4 w) → fr1 I I' m → Q (some (.int (rn4 g p))) S I' P) : cn_V l en mi_Me_readNumber d 0 0 S I P Q 0 [(0, .ref m)] [] := by
  refine cn_aload_n (pc' := 1) (k := 0) rfl rfl d_Me_readNumber_0 rfl ?_
  refine cn_callV (pc' := 4) (kc1 := 0) (ks1 := 0) (kc2 := 0) (ks2 := 0) (rest := []) (lvj := [(0, .ref m)]) [] mv_Me_39 hm.1 rfl rfl rfl (Nat.le_of_ble_eq_true rfl) (Nat.le_of_ble_eq_true rfl) (by omega) (by omega) (by omega) d_Me_readNumber_1 rfl ?_
  refine c_Me_readByte hm hr (fun I1 hr1 hf1 => ?_)
  show cn_V l en mi_Me_readNumber d 0 0 S I1 P Q 4 [(0, .ref m)] [.int (g.getD p 0)]
  refine cn_aload_n (pc' := 5) (k := 0) rfl rfl d_Me_readNumber_4 rfl ?_
  refine cn_callV (pc' := 8) (kc1 := 0) (ks1 := 0) (kc2 := 0) (ks2 := 0) (rest := [.int (g.getD p 0)]) (lvj := [(0, .ref m)]) [] mv_Me_39 hm.1 rfl rfl rfl (Nat.le_of_ble_eq_true rfl) (Nat.le_of_ble_eq_true rfl) (by omega) (by omega) (by omega) d_Me_readNumber_5 rfl ?_
  refine c_Me_readByte hm hr1 (fun I2 hr2 hf2 => ?_)
  rw [rp_add, rw_add] at hr2
  rw [gd_rp]
  show cn_V l en mi_Me_readNumber d 0 0 S I2 P Q 8 [(0, .ref m)] [.int (g.getD (p + 1) 0), .int (g.getD p 0)]
  refine cn_bipush (pc' := 10) k_b_8 d_Me_readNumber_8 rfl ?_
  refine cn_ishl (pc' := 11) d_Me_readNumber_10 rfl ?_
  refine cn_ior (pc' := 12) d_Me_readNumber_11 rfl ?_
  refine cn_istore_n (pc' := 13) (lv' := [(0, .ref m), (1, .int ((g.getD p 0) ||| ((g.getD (p + 1) 0) <<< ((nI (8)) &&& 31))))]) rfl [1, 0] (Nat.le_of_ble_eq_true rfl) rfl d_Me_readNumber_12 rfl ?_
  refine cn_iload_n (pc' := 14) (k := 1) rfl rfl d_Me_readNumber_13 rfl ?_
  refine cn_aload_n (pc' := 15) (k := 0) rfl rfl d_Me_readNumber_14 rfl ?_
  refine cn_callV (pc' := 18) (kc1 := 0) (ks1 := 0) (kc2 := 0) (ks2 := 0) (rest := [.int ((g.getD p 0) ||| ((g.getD (p + 1) 0) <<< ((nI (8)) &&& 31)))]) (lvj := [(0, .ref m)]) [] mv_Me_39 hm.1 rfl rfl rfl (Nat.le_of_ble_eq_true rfl) (Nat.le_of_ble_eq_true rfl) (by omega) (by omega) (by omega) d_Me_readNumber_15 rfl ?_
  refine c_Me_readByte hm hr2 (fun I3 hr3 hf3 => ?_)
  rw [rp_add, rw_add] at hr3
  rw [gd_rp]
  show cn_V l en mi_Me_readNumber d 0 0 S I3 P Q 18 [(0, .ref m), (1, .int ((g.getD p 0) ||| ((g.getD (p + 1) 0) <<< ((nI (8)) &&& 31))))] [.int (g.getD (p + 2) 0), .int ((g.getD p 0) ||| ((g.getD (p + 1) 0) <<< ((nI (8)) &&& 31)))]
  refine cn_bipush (pc' := 20) k_b_16 d_Me_readNumber_18 rfl ?_
  refine cn_ishl (pc' := 21) d_Me_readNumber_20 rfl ?_
  refine cn_ior (pc' := 22) d_Me_readNumber_21 rfl ?_
  refine cn_aload_n (pc' := 23) (k := 0) rfl rfl d_Me_readNumber_22 rfl ?_
  refine cn_callV (pc' := 26) (kc1 := 0) (ks1 := 0) (kc2 := 0) (ks2 := 0) (rest := [.int (((g.getD p 0) ||| ((g.getD (p + 1) 0) <<< ((nI (8)) &&& 31))) ||| ((g.getD (p + 2) 0) <<< ((nI (16)) &&& 31)))]) (lvj := [(0, .ref m)]) [] mv_Me_39 hm.1 rfl rfl rfl (Nat.le_of_ble_eq_true rfl) (Nat.le_of_ble_eq_true rfl) (by omega) (by omega) (by omega) d_Me_readNumber_23 rfl ?_
  refine c_Me_readByte hm hr3 (fun I4 hr4 hf4 => ?_)
  rw [rp_add, rw_add] at hr4
  rw [gd_rp]
  show cn_V l en mi_Me_readNumber d 0 0 S I4 P Q 26 [(0, .ref m), (1, .int ((g.getD p 0) ||| ((g.getD (p + 1) 0) <<< ((nI (8)) &&& 31))))] [.int (g.getD (p + 3) 0), .int (((g.getD p 0) ||| ((g.getD (p + 1) 0) <<< ((nI (8)) &&& 31))) ||| ((g.getD (p + 2) 0) <<< ((nI (16)) &&& 31)))]
  refine cn_bipush (pc' := 28) k_b_24 d_Me_readNumber_26 rfl ?_
  refine cn_ishl (pc' := 29) d_Me_readNumber_28 rfl ?_
  refine cn_ior (pc' := 30) d_Me_readNumber_29 rfl ?_
  refine cn_iret rfl d_Me_readNumber_30 ?_
  exact K _ hr4 ((((hf1).tr hf2).tr hf3).tr hf4)
end
/-- what a name that begins at p reads as: a number (-1 for none), how far, whether it is well formed -/
def rnm (g : List Int32) (p : Nat) : Int32 := if g.getD p 0 = 0 then g.getD (p + 1) 0 else if g.getD p 0 = 1 then (if g.getD (p + 1) 0 = 0 then rn2 g (p + 2) else -1) else -1
def rnk (g : List Int32) (p : Nat) : Nat := if g.getD p 0 = 0 then 2 else if g.getD p 0 = 1 then 4 else 1
def rnw (g : List Int32) (p : Nat) (w : Bool) : Bool := rw_ g p (rnk g p) w && (decide (g.getD p 0 = 0) || decide (g.getD p 0 = 1))
section
variable {l : Launch} {en : cn_E} {d : Nat} {S : cn_S} {I : cn_I} {P : cn_P} {Q : Option Value → cn_S → cn_I → cn_P → Prop}
variable {m : Nat} {g : List Int32} {p : Nat} {w : Bool}
theorem c_Me_readName (hm : ym S P m) (hr : rd I m g p w) (hd1 : 1 ≤ d) (K : ∀ I', rd I' m g (rp g p (rnk g p)) (rnw g p w) → fr1 I I' m → Q (some (.int (rnm g p))) S I' P) : cn_V l en mi_Me_readName d 0 0 S I P Q 0 [(0, .ref m)] [] := by
  refine cn_aload_n (pc' := 1) (k := 0) rfl rfl d_Me_readName_0 rfl ?_
  refine cn_callV (pc' := 4) (kc1 := 0) (ks1 := 0) (kc2 := 0) (ks2 := 0) (rest := []) (lvj := [(0, .ref m)]) [] mv_Me_39 hm.1 rfl rfl rfl (Nat.le_of_ble_eq_true rfl) (Nat.le_of_ble_eq_true rfl) (by omega) (by omega) (by omega) d_Me_readName_1 rfl ?_
  refine c_Me_readByte hm hr (fun I1 hr1 hf1 => ?_)
  show cn_V l en mi_Me_readName d 0 0 S I1 P Q 4 [(0, .ref m)] [.int (g.getD p 0)]
  refine cn_istore_n (pc' := 5) (lv' := [(0, .ref m), (1, .int (g.getD p 0))]) rfl [1, 0] (Nat.le_of_ble_eq_true rfl) rfl d_Me_readName_4 rfl ?_
  refine cn_iload_n (pc' := 6) (k := 1) rfl rfl d_Me_readName_5 rfl ?_
  refine cn_if_ne (tgt := 14) (pc' := 9) d_Me_readName_6 (by decide) rfl (fun hc6 => ?_) (fun hc6 => ?_)
  · refine cn_iload_n (pc' := 15) (k := 1) rfl rfl d_Me_readName_14 rfl ?_
    refine cn_iconst (pc' := 16) k_c_1 d_Me_readName_15 rfl ?_
    refine cn_icmp_eq (tgt := 26) (pc' := 19) d_Me_readName_16 (by decide) rfl (fun hc16 => ?_) (fun hc16 => ?_)
    · refine cn_aload_n (pc' := 27) (k := 0) rfl rfl d_Me_readName_26 rfl ?_
      refine cn_callV (pc' := 30) (kc1 := 0) (ks1 := 0) (kc2 := 0) (ks2 := 0) (rest := []) (lvj := [(0, .ref m)]) [] mv_Me_39 hm.1 rfl rfl rfl (Nat.le_of_ble_eq_true rfl) (Nat.le_of_ble_eq_true rfl) (by omega) (by omega) (by omega) d_Me_readName_27 rfl ?_
      refine c_Me_readByte hm hr1 (fun I2 hr2 hf2 => ?_)
      rw [rp_add, rw_add] at hr2
      rw [gd_rp]
      show cn_V l en mi_Me_readName d 0 0 S I2 P Q 30 [(0, .ref m), (1, .int (g.getD p 0))] [.int (g.getD (p + 1) 0)]
      refine cn_istore_n (pc' := 31) (lv' := [(0, .ref m), (1, .int (g.getD p 0)), (2, .int (g.getD (p + 1) 0))]) rfl [1, 2, 0] (Nat.le_of_ble_eq_true rfl) rfl d_Me_readName_30 rfl ?_
      refine cn_aload_n (pc' := 32) (k := 0) rfl rfl d_Me_readName_31 rfl ?_
      refine cn_callV (pc' := 35) (kc1 := 0) (ks1 := 0) (kc2 := 0) (ks2 := 0) (rest := []) (lvj := [(0, .ref m)]) [] mv_Me_39 hm.1 rfl rfl rfl (Nat.le_of_ble_eq_true rfl) (Nat.le_of_ble_eq_true rfl) (by omega) (by omega) (by omega) d_Me_readName_32 rfl ?_
      refine c_Me_readByte hm hr2 (fun I3 hr3 hf3 => ?_)
      rw [rp_add, rw_add] at hr3
      rw [gd_rp]
      show cn_V l en mi_Me_readName d 0 0 S I3 P Q 35 [(0, .ref m), (1, .int (g.getD p 0)), (2, .int (g.getD (p + 1) 0))] [.int (g.getD (p + 2) 0)]
      refine cn_aload_n (pc' := 36) (k := 0) rfl rfl d_Me_readName_35 rfl ?_
      refine cn_callV (pc' := 39) (kc1 := 0) (ks1 := 0) (kc2 := 0) (ks2 := 0) (rest := [.int (g.getD (p + 2) 0)]) (lvj := [(0, .ref m)]) [] mv_Me_39 hm.1 rfl rfl rfl (Nat.le_of_ble_eq_true rfl) (Nat.le_of_ble_eq_true rfl) (by omega) (by omega) (by omega) d_Me_readName_36 rfl ?_
      refine c_Me_readByte hm hr3 (fun I4 hr4 hf4 => ?_)
      rw [rp_add, rw_add] at hr4
      rw [gd_rp]
      show cn_V l en mi_Me_readName d 0 0 S I4 P Q 39 [(0, .ref m), (1, .int (g.getD p 0)), (2, .int (g.getD (p + 1) 0))] [.int (g.getD (p + 3) 0), .int (g.getD (p + 2) 0)]
      refine cn_bipush (pc' := 41) k_b_8 d_Me_readName_39 rfl ?_
      refine cn_ishl (pc' := 42) d_Me_readName_41 rfl ?_
      refine cn_ior (pc' := 43) d_Me_readName_42 rfl ?_
      refine cn_istore_n (pc' := 44) (lv' := [(0, .ref m), (1, .int (g.getD p 0)), (2, .int (g.getD (p + 1) 0)), (3, .int ((g.getD (p + 2) 0) ||| ((g.getD (p + 3) 0) <<< ((nI (8)) &&& 31))))]) rfl [1, 2, 3, 0] (Nat.le_of_ble_eq_true rfl) rfl d_Me_readName_43 rfl ?_
      refine cn_iload_n (pc' := 45) (k := 2) rfl rfl d_Me_readName_44 rfl ?_
      refine cn_if_ne (tgt := 52) (pc' := 48) d_Me_readName_45 (by decide) rfl (fun hc45 => ?_) (fun hc45 => ?_)
      · refine cn_iconst (pc' := 53) k_c_m1 d_Me_readName_52 rfl ?_
        refine cn_iret rfl d_Me_readName_53 ?_
        have h0 : ¬ g.getD p 0 = 0 := hc6
        have h1 : g.getD p 0 = 1 := hc16
        have e2 : rnk g p = 4 := by unfold rnk; rw [if_neg h0, if_pos h1]
        have e3 : rnw g p w = rw_ g p 4 w := by unfold rnw; rw [e2, decide_eq_true h1, Bool.or_true, Bool.and_true]
        have e1 : rnm g p = -1 := by unfold rnm; rw [if_neg h0, if_pos h1, if_neg hc45]
        rw [e1] at K
        exact K _ (by rw [e2, e3]; exact hr4) ((((hf1).tr hf2).tr hf3).tr hf4)
      · refine cn_iload_n (pc' := 49) (k := 3) rfl rfl d_Me_readName_48 rfl ?_
        refine cn_goto (tgt := 53) d_Me_readName_49 (by decide) ?_
        refine cn_iret rfl d_Me_readName_53 ?_
        have h0 : ¬ g.getD p 0 = 0 := hc6
        have h1 : g.getD p 0 = 1 := hc16
        have e2 : rnk g p = 4 := by unfold rnk; rw [if_neg h0, if_pos h1]
        have e3 : rnw g p w = rw_ g p 4 w := by unfold rnw; rw [e2, decide_eq_true h1, Bool.or_true, Bool.and_true]
        have e1 : rnm g p = rn2 g (p + 2) := by unfold rnm; rw [if_neg h0, if_pos h1, if_pos hc45]
        rw [e1] at K
        exact K _ (by rw [e2, e3]; exact hr4) ((((hf1).tr hf2).tr hf3).tr hf4)
    · refine cn_aload_n (pc' := 20) (k := 0) rfl rfl d_Me_readName_19 rfl ?_
      refine cn_iconst (pc' := 21) k_c_0 d_Me_readName_20 rfl ?_
      refine cn_putI (pc' := 24) fl_Me_24 hm.1 rfl rfl rfl rfl d_Me_readName_21 rfl ?_
      refine cn_iconst (pc' := 25) k_c_m1 d_Me_readName_24 rfl ?_
      refine cn_iret rfl d_Me_readName_25 ?_
      have h0 : ¬ g.getD p 0 = 0 := hc6
      have h1 : ¬ g.getD p 0 = 1 := hc16
      have e1 : rnm g p = -1 := by unfold rnm; rw [if_neg h0, if_neg h1]
      have e2 : rnk g p = 1 := by unfold rnk; rw [if_neg h0, if_neg h1]
      have e3 : rnw g p w = false := by unfold rnw; rw [decide_eq_false h0, decide_eq_false h1]; simp
      rw [← e1]; exact K _ (by rw [e2, e3]; exact rd_bad hr1) ((hf1).tr (fun a h => cn_wi_ne h))
  · refine cn_aload_n (pc' := 10) (k := 0) rfl rfl d_Me_readName_9 rfl ?_
    refine cn_callV (pc' := 13) (kc1 := 0) (ks1 := 0) (kc2 := 0) (ks2 := 0) (rest := []) (lvj := [(0, .ref m)]) [] mv_Me_39 hm.1 rfl rfl rfl (Nat.le_of_ble_eq_true rfl) (Nat.le_of_ble_eq_true rfl) (by omega) (by omega) (by omega) d_Me_readName_10 rfl ?_
    refine c_Me_readByte hm hr1 (fun I2 hr2 hf2 => ?_)
    rw [rp_add, rw_add] at hr2
    rw [gd_rp]
    show cn_V l en mi_Me_readName d 0 0 S I2 P Q 13 [(0, .ref m), (1, .int (g.getD p 0))] [.int (g.getD (p + 1) 0)]
    refine cn_iret rfl d_Me_readName_13 ?_
    have h0 : g.getD p 0 = 0 := hc6
    have e1 : rnm g p = g.getD (p + 1) 0 := by unfold rnm; rw [if_pos h0]
    have e2 : rnk g p = 2 := by unfold rnk; rw [if_pos h0]
    have e3 : rnw g p w = rw_ g p 2 w := by unfold rnw; rw [e2, decide_eq_true h0, Bool.true_or, Bool.and_true]
    rw [← e1]; exact K _ (by rw [e2, e3]; exact hr2) ((hf1).tr hf2)
end
end
section
/-- n bytes from p on -/
def mvb (g : List Int32) (p n : Nat) : List Int32 := (List.range n).map (fun k => g.getD (p + k) 0)
theorem mvb_succ (g : List Int32) (p n : Nat) : mvb g p (n + 1) = mvb g p n ++ [g.getD (p + n) 0] := by simp [mvb, List.range_succ]
theorem mvb_add (g : List Int32) (p n : Nat) : ∀ k, mvb g p (n + k) = mvb g p n ++ mvb g (p + n) k
  | 0 => by simp [mvb]
  | k + 1 => by
    rw [← Nat.add_assoc, mvb_succ, mvb_add g p n k, mvb_succ, List.append_assoc, Nat.add_assoc]
theorem mvb_1 (g : List Int32) (p : Nat) : mvb g p 1 = [g.getD p 0] := rfl
theorem tk_app (v u t : List Int32) (cap : Nat) : ((v ++ u).take cap ++ t).take cap = (v ++ (u ++ t)).take cap := by
  rw [← List.append_assoc]
  by_cases h : (v ++ u).length ≤ cap
  · rw [List.take_of_length_le h]
  · have h2 : ((v ++ u).take cap).length = cap := by rw [List.length_take]; omega
    rw [tk_ge h2]
    exact (List.take_append_of_le_length (by omega)).symm
theorem tk_len (v : List Int32) (cap : Nat) : (v.take cap).length ≤ cap := by rw [List.length_take]; omega
/-- as many values as told, one behind the other -/
def pvs (f : Nat → Option (List Int32 × Nat)) : Nat → Nat → Option (List Int32 × Nat)
  | 0, p => some ([], p)
  | n + 1, p => match f p with
    | none => none
    | some a => match pvs f n a.2 with
      | none => none
      | some b => some (a.1 ++ b.1, b.2)
/-- a value from p on; lst: what a list there reads as -/
def pvc (g : List Int32) (lst : Nat → Option (List Int32 × Nat)) (p : Nat) : Option (List Int32 × Nat) :=
  if p + 1 ≤ g.length then
    if g.getD p 0 = nI 0 then some (mvb g p 1, p + 1)
    else if g.getD p 0 = nI 1 then (if p + 2 ≤ g.length then some ([nI 1, if g.getD (p + 1) 0 = 0 then nI 0 else nI 1], p + 2) else none)
    else if g.getD p 0 = nI 6 then (if p + 5 ≤ g.length then some (mvb g p 5, p + 5) else none)
    else if g.getD p 0 = nI 8 then (if p + 9 ≤ g.length then some (mvb g p 9, p + 9) else none)
    else if g.getD p 0 = nI 12 then (if p + 5 ≤ g.length then
        (if rn4 g (p + 1) = -1 then some (mvb g p 5, p + 5) else if rn4 g (p + 1) < 0 then none
         else if p + 5 + (rn4 g (p + 1)).toNatClampNeg ≤ g.length then some (mvb g p (5 + (rn4 g (p + 1)).toNatClampNeg), p + 5 + (rn4 g (p + 1)).toNatClampNeg) else none) else none)
    else if g.getD p 0 = nI 152 then (if p + 5 ≤ g.length then lst p else none)
    else none
  else none
def pvl (g : List Int32) (f : Nat → Option (List Int32 × Nat)) (p : Nat) : Option (List Int32 × Nat) :=
  if rn4 g (p + 1) < 0 then none else match pvs f (rn4 g (p + 1)).toNatClampNeg (p + 5) with
    | none => none
    | some b => some (mvb g p 5 ++ b.1, b.2)
/-- a value from p on that is at most k deep: its bytes as they are written, and the place behind it -/
def pv (g : List Int32) : Nat → Nat → Option (List Int32 × Nat)
  | 0 => pvc g (fun _ => none)
  | k + 1 => pvc g (pvl g (pv g k))
theorem pvs_len {f : Nat → Option (List Int32 × Nat)} {L : Nat} (hf : ∀ p a, f p = some a → p + 1 ≤ a.2 ∧ a.2 ≤ L) : ∀ (n p : Nat) (b : List Int32 × Nat), pvs f n p = some b → p + n ≤ b.2 ∧ (0 < n → b.2 ≤ L)
  | 0, p, b, h => by
    simp only [pvs, Option.some.injEq] at h
    subst h
    exact ⟨Nat.le_refl _, fun h => absurd h (Nat.not_lt_zero 0)⟩
  | n + 1, p, b, h => by
    simp only [pvs] at h
    cases h1 : f p with
    | none => simp [h1] at h
    | some a =>
      simp only [h1] at h
      cases h2 : pvs f n a.2 with
      | none => simp [h2] at h
      | some c =>
        simp only [h2, Option.some.injEq] at h
        subst h
        have q1 := hf p a h1
        have q2 := pvs_len hf n a.2 c h2
        refine ⟨by have := q2.1; show p + (n + 1) ≤ c.2; omega, fun _ => ?_⟩
        show c.2 ≤ L
        by_cases hn : 0 < n
        · exact q2.2 hn
        · have hn0 : n = 0 := by omega
          subst hn0
          simp only [pvs, Option.some.injEq] at h2
          rw [← h2]
          exact q1.2
theorem pvc_len {g : List Int32} {lst : Nat → Option (List Int32 × Nat)} (hl : ∀ p a, p + 5 ≤ g.length → lst p = some a → p + 1 ≤ a.2 ∧ a.2 ≤ g.length) (p : Nat) (a : List Int32 × Nat) (h : pvc g lst p = some a) : p + 1 ≤ a.2 ∧ a.2 ≤ g.length := by
  unfold pvc at h
  repeat' split at h
  all_goals first
    | (cases h; done)
    | exact hl p a (by assumption) h
    | (cases h; refine ⟨?_, ?_⟩ <;> dsimp only <;> omega)
theorem pvl_len {g : List Int32} {f : Nat → Option (List Int32 × Nat)} (hf : ∀ p a, f p = some a → p + 1 ≤ a.2 ∧ a.2 ≤ g.length) (p : Nat) (a : List Int32 × Nat) (h5 : p + 5 ≤ g.length) (h : pvl g f p = some a) : p + 1 ≤ a.2 ∧ a.2 ≤ g.length := by
  unfold pvl at h
  split at h
  · cases h
  · cases h1 : pvs f (rn4 g (p + 1)).toNatClampNeg (p + 5) with
    | none => simp [h1] at h
    | some b =>
      simp only [h1, Option.some.injEq] at h
      subst h
      have q := pvs_len hf _ _ b h1
      have q1 := q.1
      refine ⟨by show p + 1 ≤ b.2; omega, ?_⟩
      show b.2 ≤ g.length
      by_cases hn : 0 < (rn4 g (p + 1)).toNatClampNeg
      · exact q.2 hn
      · have hn0 : (rn4 g (p + 1)).toNatClampNeg = 0 := by omega
        rw [hn0] at h1
        simp only [pvs, Option.some.injEq] at h1
        rw [← h1]
        exact h5
theorem pv_len (g : List Int32) : ∀ (k p : Nat) (a : List Int32 × Nat), pv g k p = some a → p + 1 ≤ a.2 ∧ a.2 ≤ g.length
  | 0, p, a, h => pvc_len (fun _ _ _ h => by cases h) p a h
  | k + 1, p, a, h => pvc_len (fun q b h5 h => pvl_len (pv_len g k) q b h5 h) p a h
def fr3 (I I' : cn_I) (m b : Nat) : Prop := ∀ a, a ≠ m → a ≠ b → a ≠ b + 1 → I' a = I a
theorem fr3.rf {I : cn_I} {m b : Nat} : fr3 I I m b := fun _ _ _ _ => rfl
theorem fr3.tr {I I1 I2 : cn_I} {m b : Nat} (h1 : fr3 I I1 m b) (h2 : fr3 I1 I2 m b) : fr3 I I2 m b := fun a x y z => (h2 a x y z).trans (h1 a x y z)
theorem fr1.to3 {I I' : cn_I} {m b : Nat} (h : fr1 I I' m) : fr3 I I' m b := fun a x _ _ => h a x
theorem fr2.to3 {I I' : cn_I} {m b : Nat} (h : fr2 I I' b) : fr3 I I' m b := fun a _ y z => h a y z
/-- the four bytes of a number are the bytes that it was read from -/
theorem num4_bytes {a b c e : Int32} (ha : a &&& 255 = a) (hb : b &&& 255 = b) (hc : c &&& 255 = c) (he : e &&& 255 = e) : lbs (num4 a b c e).toInt64 4 = [a, b, c, e] := by
  have key : ∀ (i : Nat) (z : Int32), i < 4 → z &&& 255 = z → (∀ j, j < 8 → bt (num4 a b c e) (8 * i + j) = bt z j) → lby (num4 a b c e).toInt64 i = z := by
    intro i z hi hz h
    apply b_ext
    intro j hj
    by_cases h8 : j < 8
    · rw [lby_bit (by omega) h8, bi_l (by omega), h j h8]
    · rw [lby_hi (by omega), b_hi hz (by omega)]
  have bits : ∀ j, j < 32 → bt (num4 a b c e) j = (((bt a j || (decide (8 ≤ j) && bt b (j - 8))) || (decide (16 ≤ j) && bt c (j - 16))) || (decide (24 ≤ j) && bt e (j - 24))) := by
    intro j hj
    unfold num4
    rw [b_or, b_or, b_or, b_shl 8 (by omega) _ hj, b_shl 16 (by omega) _ hj, b_shl 24 (by omega) _ hj]
  have e0 := key 0 a (by omega) ha (fun j hj => by
    rw [bits _ (by omega), decide_eq_false (show ¬ 8 ≤ 8 * 0 + j by omega), decide_eq_false (show ¬ 16 ≤ 8 * 0 + j by omega), decide_eq_false (show ¬ 24 ≤ 8 * 0 + j by omega)]
    simp)
  have e1 := key 1 b (by omega) hb (fun j hj => by
    rw [bits _ (by omega), decide_eq_true (show 8 ≤ 8 * 1 + j by omega), decide_eq_false (show ¬ 16 ≤ 8 * 1 + j by omega), decide_eq_false (show ¬ 24 ≤ 8 * 1 + j by omega), b_hi ha (by omega), show 8 * 1 + j - 8 = j by omega]
    simp)
  have e2 := key 2 c (by omega) hc (fun j hj => by
    rw [bits _ (by omega), decide_eq_true (show 16 ≤ 8 * 2 + j by omega), decide_eq_false (show ¬ 24 ≤ 8 * 2 + j by omega), b_hi ha (by omega), b_hi hb (show 8 ≤ 8 * 2 + j - 8 by omega), show 8 * 2 + j - 16 = j by omega]
    simp)
  have e3 := key 3 e (by omega) he (fun j hj => by
    rw [bits _ (by omega), decide_eq_true (show 24 ≤ 8 * 3 + j by omega), b_hi ha (by omega), b_hi hb (show 8 ≤ 8 * 3 + j - 8 by omega), b_hi hc (show 8 ≤ 8 * 3 + j - 16 by omega), show 8 * 3 + j - 24 = j by omega]
    simp)
  show [lby _ 0, lby _ 1, lby _ 2, lby _ 3] = _
  rw [e0, e1, e2, e3]
section
variable {l : Launch} {en : cn_E} {d : Nat} {S : cn_S} {I : cn_I} {P : cn_P} {Q : Option Value → cn_S → cn_I → cn_P → Prop}
variable {m b cap : Nat} {g v : List Int32} {p : Nat} {w : Bool}
theorem c_Me_moveBytes_loop (hm : ym S P m) (hb : yb S P b cap) (hdis : b + 1 < m ∨ m + 2 < b) {n : Nat} (hn : n ≤ 64) (hd1 : 1 ≤ d) (I0 : cn_I) (K : ∀ I', rd I' m g (rp g p n) (rw_ g p n w) → ys I' b ((v ++ mvb g p n).take cap) → fr3 I0 I' m b → Q none S I' P) : ∀ (k i : Nat) (I : cn_I), i + k = n → rd I m g (rp g p i) (rw_ g p i w) → ys I b ((v ++ mvb g p i).take cap) → fr3 I0 I m b → cn_V l en mi_Me_moveBytes d 0 0 S I P Q 2 [(0, .ref m), (1, .ref b), (2, .int (nI n)), (3, .int (nI i))] [] := by
  intro k
  induction k with
  | zero =>
    intro i I hik hr hy hf
    refine cn_iload_n (pc' := 3) (k := 3) rfl rfl d_Me_moveBytes_2 rfl ?_
    refine cn_iload_n (pc' := 4) (k := 2) rfl rfl d_Me_moveBytes_3 rfl ?_
    refine cn_icmp_ge_n (tgt := 21) (pc' := 7) (by omega) (by omega) d_Me_moveBytes_4 (by decide) rfl (fun hc4 => ?_) (fun hc4 => ?_)
    · refine cn_vret rfl d_Me_moveBytes_21 ?_
      have e : i = n := by omega
      subst e
      exact K _ hr hy hf
    · exact absurd hc4 (by omega)
  | succ k ih =>
    intro i I hik hr hy hf
    refine cn_iload_n (pc' := 3) (k := 3) rfl rfl d_Me_moveBytes_2 rfl ?_
    refine cn_iload_n (pc' := 4) (k := 2) rfl rfl d_Me_moveBytes_3 rfl ?_
    refine cn_icmp_ge_n (tgt := 21) (pc' := 7) (by omega) (by omega) d_Me_moveBytes_4 (by decide) rfl (fun hc4 => ?_) (fun hc4 => ?_)
    · exact absurd hc4 (by omega)
    · refine cn_aload_n (pc' := 8) (k := 1) rfl rfl d_Me_moveBytes_7 rfl ?_
      refine cn_aload_n (pc' := 9) (k := 0) rfl rfl d_Me_moveBytes_8 rfl ?_
      refine cn_callV (pc' := 12) (kc1 := 0) (ks1 := 0) (kc2 := 0) (ks2 := 0) (rest := [.ref b]) (lvj := [(0, .ref m)]) [] mv_Me_39 hm.1 rfl rfl rfl (Nat.le_of_ble_eq_true rfl) (Nat.le_of_ble_eq_true rfl) (by omega) (by omega) (by omega) d_Me_moveBytes_9 rfl ?_
      refine c_Me_readByte hm hr (fun I1 hr1 hf1 => ?_)
      rw [rp_add, rw_add] at hr1
      rw [gd_rp]
      have hy1 := hy.keep1 hf1 (by omega) (by omega)
      show cn_V l en mi_Me_moveBytes d 0 0 S I1 P Q 12 [(0, .ref m), (1, .ref b), (2, .int (nI (n))), (3, .int (nI (i)))] [.int (g.getD (p + i) 0), .ref b]
      refine cn_callV (pc' := 15) (kc1 := 0) (ks1 := 0) (kc2 := 0) (ks2 := 0) (rest := []) (lvj := [(0, .ref b), (1, .int (g.getD (p + i) 0))]) [.int (g.getD (p + i) 0)] mv_Me_42 hb.1 rfl rfl rfl (Nat.le_of_ble_eq_true rfl) (Nat.le_of_ble_eq_true rfl) (by omega) (by omega) (by omega) d_Me_moveBytes_12 rfl ?_
      refine c_By_add (cap := cap) hb hy1 (tk_len _ _) (fun I2 hy2 hf2 => ?_)
      rw [hr.g8, tk_app, ← mvb_succ] at hy2
      have hr2 := hr1.keep hf2 (by omega) (by omega) (by omega) (by omega)
      show cn_V l en mi_Me_moveBytes d 0 0 S I2 P Q 15 [(0, .ref m), (1, .ref b), (2, .int (nI (n))), (3, .int (nI (i)))] []
      refine cn_iinc_n (pc' := 18) (lv' := [(0, .ref m), (1, .ref b), (2, .int (nI (n))), (3, .int (nI (i + 1)))]) (k := 3) [1, 2, 3, 0] rfl (Nat.le_of_ble_eq_true rfl) rfl d_Me_moveBytes_15 rfl ?_
      refine cn_goto (tgt := 2) d_Me_moveBytes_18 (by decide) ?_
      exact ih (i + 1) I2 (by omega) hr2 hy2 ((hf.tr hf1.to3).tr hf2.to3)
theorem c_Me_moveBytes (hm : ym S P m) (hb : yb S P b cap) (hdis : b + 1 < m ∨ m + 2 < b) {n : Nat} (hn : n ≤ 64) (hd1 : 1 ≤ d) (hr : rd I m g p w) (hy : ys I b v) (hc : v.length ≤ cap) (K : ∀ I', rd I' m g (rp g p n) (rw_ g p n w) → ys I' b ((v ++ mvb g p n).take cap) → fr3 I I' m b → Q none S I' P) : cn_V l en mi_Me_moveBytes d 0 0 S I P Q 0 [(0, .ref m), (1, .ref b), (2, .int (nI n))] [] := by
  have e1 : rp g p 0 = p := by have := hr.2.2.2.1; unfold rp; omega
  have e2 : rw_ g p 0 w = w := by have := hr.2.2.2.1; unfold rw_; rw [decide_eq_true (by omega), Bool.and_true]
  refine cn_iconst (pc' := 1) k_c_0 d_Me_moveBytes_0 rfl ?_
  refine cn_istore_n (pc' := 2) (lv' := [(0, .ref m), (1, .ref b), (2, .int (nI (n))), (3, .int (nI (0)))]) rfl [1, 2, 3, 0] (Nat.le_of_ble_eq_true rfl) rfl d_Me_moveBytes_1 rfl ?_
  exact c_Me_moveBytes_loop hm hb hdis hn hd1 I K n 0 I (by omega) (by rw [e1, e2]; exact hr) (by rw [show mvb g p 0 = [] from rfl, List.append_nil, List.take_of_length_le hc]; exact hy) fr3.rf
theorem c_Me_moveBytes_m1 (K : Q none S I P) : cn_V l en mi_Me_moveBytes d 0 0 S I P Q 0 [(0, .ref m), (1, .ref b), (2, .int (-1))] [] := by
  refine cn_iconst (pc' := 1) k_c_0 d_Me_moveBytes_0 rfl ?_
  refine cn_istore_n (pc' := 2) (lv' := [(0, .ref m), (1, .ref b), (2, .int (-1)), (3, .int (nI (0)))]) rfl [1, 2, 3, 0] (Nat.le_of_ble_eq_true rfl) rfl d_Me_moveBytes_1 rfl ?_
  refine cn_iload_n (pc' := 3) (k := 3) rfl rfl d_Me_moveBytes_2 rfl ?_
  refine cn_iload_n (pc' := 4) (k := 2) rfl rfl d_Me_moveBytes_3 rfl ?_
  refine cn_icmp_ge (tgt := 21) (pc' := 7) d_Me_moveBytes_4 (by decide) rfl (fun hc4 => ?_) (fun hc4 => ?_)
  · refine cn_vret rfl d_Me_moveBytes_21 ?_
    exact K
  · exact absurd (by decide +kernel) hc4
end
end
section
/-- one reading behind another -/
def pb (r : Option (List Int32 × Nat)) (f : Nat → Option (List Int32 × Nat)) : Option (List Int32 × Nat) := match r with
  | none => none
  | some a => match f a.2 with
    | none => none
    | some b => some (a.1 ++ b.1, b.2)
/-- what a reader's end has to do with what was to be read: r, put behind v -/
def pq (r : Option (List Int32 × Nat)) (v : List Int32) (cap : Nat) (w : Bool) (p' : Nat) (w' : Bool) (v' : List Int32) : Prop :=
  (w = false → w' = false) ∧ (w = true → r = none → w' = false) ∧ (w = true → ∀ a, r = some a → w' = true ∧ p' = a.2 ∧ v' = (v ++ a.1).take cap)
theorem pq_seq {r : Option (List Int32 × Nat)} {f : Nat → Option (List Int32 × Nat)} {v v1 v2 : List Int32} {cap p1 p2 : Nat} {w w1 w2 : Bool} (h1 : pq r v cap w p1 w1 v1) (h2 : pq (f p1) v1 cap w1 p2 w2 v2) : pq (pb r f) v cap w p2 w2 v2 := by
  obtain ⟨a1, a2, a3⟩ := h1
  obtain ⟨b1, b2, b3⟩ := h2
  refine ⟨fun h => b1 (a1 h), fun h hn => ?_, fun h c hc => ?_⟩
  · cases hr : r with
    | none => exact b1 (a2 h hr)
    | some a =>
      obtain ⟨e1, e2, e3⟩ := a3 h a hr
      rw [hr] at hn
      simp only [pb] at hn
      cases hf : f a.2 with
      | none => exact b2 e1 (by rw [e2]; exact hf)
      | some b => rw [hf] at hn; cases hn
  · cases hr : r with
    | none => rw [hr] at hc; cases hc
    | some a =>
      obtain ⟨e1, e2, e3⟩ := a3 h a hr
      rw [hr] at hc
      simp only [pb] at hc
      cases hf : f a.2 with
      | none => rw [hf] at hc; cases hc
      | some b =>
        rw [hf] at hc
        cases hc
        obtain ⟨d1, d2, d3⟩ := b3 e1 b (by rw [e2]; exact hf)
        exact ⟨d1, d2, by rw [d3, e3, tk_app]⟩
theorem pq_bad {v v' : List Int32} {cap p' : Nat} {w : Bool} : pq none v cap w p' false v' := ⟨fun _ => rfl, fun _ _ => rfl, fun _ _ h => by cases h⟩
theorem pq_no {r : Option (List Int32 × Nat)} {v v' : List Int32} {cap p' : Nat} : pq r v cap false p' false v' := ⟨fun _ => rfl, fun h => (by cases h), fun h => (by cases h)⟩
theorem pq_of {r r' : Option (List Int32 × Nat)} {v v' : List Int32} {cap p' : Nat} {w w' : Bool} (h : pq r v cap w p' w' v') (e : r = r') : pq r' v cap w p' w' v' := e ▸ h
theorem pq_nil {v : List Int32} {cap p : Nat} {w : Bool} (hc : v.length ≤ cap) : pq (some ([], p)) v cap w p w v := ⟨fun h => h, fun _ h => (by cases h), fun h a e => (by cases e; exact ⟨h, rfl, by rw [List.append_nil, List.take_of_length_le hc]⟩)⟩
theorem nI_nm1 {j : Nat} (hj : j < 2 ^ 31) : ¬ nI j = -1 := fun e => nI_pos hj (by rw [e]; decide)
def pmv (g : List Int32) (n p : Nat) : Option (List Int32 × Nat) := if p + n ≤ g.length then some (mvb g p n, p + n) else none
theorem pq_mv (g v : List Int32) (cap p n : Nat) (w : Bool) : pq (pmv g n p) v cap w (rp g p n) (rw_ g p n w) ((v ++ mvb g p n).take cap) := by
  unfold pmv rw_ rp
  refine ⟨fun h => by rw [h]; rfl, fun h hn => ?_, fun h a ha => ?_⟩
  · by_cases hl : p + n ≤ g.length
    · rw [if_pos hl] at hn; cases hn
    · rw [h, decide_eq_false hl]; rfl
  · by_cases hl : p + n ≤ g.length
    · rw [if_pos hl] at ha
      cases ha
      exact ⟨by rw [h, decide_eq_true hl]; rfl, Nat.min_eq_left hl, rfl⟩
    · rw [if_neg hl] at ha; cases ha
def ptx (g : List Int32) (p : Nat) : Option (List Int32 × Nat) := pb (pmv g 4 p) (fun q => if rn4 g p = -1 then some ([], q) else if rn4 g p < 0 then none else pmv g (rn4 g p).toNatClampNeg q)
def plx (g : List Int32) (f : Nat → Option (List Int32 × Nat)) (p : Nat) : Option (List Int32 × Nat) := pb (pmv g 4 p) (fun q => if rn4 g p < 0 then none else pvs f (rn4 g p).toNatClampNeg q)
theorem lbs_rn4 {I : cn_I} {m : Nat} {g : List Int32} {p q : Nat} {w : Bool} (h : rd I m g q w) : lbs (rn4 g p).toInt64 4 = mvb g p 4 := num4_bytes (h.g8 _) (h.g8 _) (h.g8 _) (h.g8 _)
theorem pvs_succ (f : Nat → Option (List Int32 × Nat)) (n p : Nat) : pvs f (n + 1) p = pb (f p) (pvs f n) := rfl
theorem i_lt_m1 {x : Int32} (h : ¬ x < -1) (h2 : x < 0) : x = -1 := by
  have a1 : ¬ x.toInt < (-1 : Int32).toInt := fun q => h (Int32.lt_iff_toInt_lt.mpr q)
  have a2 := Int32.lt_iff_toInt_lt.mp h2
  apply Int32.toInt_inj.mp
  have e1 : (-1 : Int32).toInt = -1 := rfl
  have e2 : (0 : Int32).toInt = 0 := rfl
  rw [e1] at a1 ⊢
  rw [e2] at a2
  omega
section
variable {l : Launch} {en : cn_E} {d : Nat} {S : cn_S} {I : cn_I} {P : cn_P} {Q : Option Value → cn_S → cn_I → cn_P → Prop}
variable {m b cap : Nat} {g v : List Int32} {p : Nat} {w : Bool}
theorem c_Me_readText (hm : ym S P m) (hb : yb S P b cap) (hdis : b + 1 < m ∨ m + 2 < b) (hr : rd I m g p w) (hy : ys I b v) (hc : v.length ≤ cap) (hd1 : 2 ≤ d) (K : ∀ (I' : cn_I) (p' : Nat) (w' : Bool) (v' : List Int32), rd I' m g p' w' → ys I' b v' → v'.length ≤ cap → fr3 I I' m b → pq (ptx g p) v cap w p' w' v' → Q none S I' P) : cn_V l en mi_Me_readText d 0 0 S I P Q 0 [(0, .ref m), (1, .ref b)] [] := by
  have hl2 := hr.2.2.2.2
  obtain ⟨x, hx⟩ : ∃ x, x = rn4 g p := ⟨_, rfl⟩
  refine cn_aload_n (pc' := 1) (k := 0) rfl rfl d_Me_readText_0 rfl ?_
  refine cn_callV (pc' := 4) (kc1 := 0) (ks1 := 0) (kc2 := 0) (ks2 := 0) (rest := []) (lvj := [(0, .ref m)]) [] mv_Me_56 hm.1 rfl rfl rfl (Nat.le_of_ble_eq_true rfl) (Nat.le_of_ble_eq_true rfl) (by omega) (by omega) (by omega) d_Me_readText_1 rfl ?_
  refine c_Me_readNumber hm hr (by omega) (fun I1 hr1 hf1 => ?_)
  have hy1 := hy.keep1 hf1 (by omega) (by omega)
  rw [← hx]
  show cn_V l en mi_Me_readText d 0 0 S I1 P Q 4 [(0, .ref m), (1, .ref b)] [.int (x)]
  refine cn_istore_n (pc' := 5) (lv' := [(0, .ref m), (1, .ref b), (2, .int (x))]) rfl [1, 2, 0] (Nat.le_of_ble_eq_true rfl) rfl d_Me_readText_4 rfl ?_
  refine cn_aload_n (pc' := 6) (k := 1) rfl rfl d_Me_readText_5 rfl ?_
  refine cn_iload_n (pc' := 7) (k := 2) rfl rfl d_Me_readText_6 rfl ?_
  refine cn_i2l (pc' := 8) d_Me_readText_7 rfl ?_
  refine cn_iconst (pc' := 9) k_c_4 d_Me_readText_8 rfl ?_
  refine cn_callV (pc' := 12) (kc1 := 0) (ks1 := 0) (kc2 := 0) (ks2 := 0) (rest := []) (lvj := [(0, .ref b), (1, .long ((x).toInt64)), (3, .int (nI (4)))]) [.long ((x).toInt64), .int (nI (4))] mv_Me_59 hb.1 rfl rfl rfl (Nat.le_of_ble_eq_true rfl) (Nat.le_of_ble_eq_true rfl) (by omega) (by omega) (by omega) d_Me_readText_9 rfl ?_
  refine c_By_addNumber (cap := cap) hb hy1 hc (by omega) (by omega) (fun I2 hy2 hf2 => ?_)
  rw [hx, lbs_rn4 hr] at hy2
  have hr2 := hr1.keep hf2 (by omega) (by omega) (by omega) (by omega)
  have hpq := pq_mv g v cap p 4 w
  have hf12 : fr3 I I2 m b := (hf1.to3).tr hf2.to3
  show cn_V l en mi_Me_readText d 0 0 S I2 P Q 12 [(0, .ref m), (1, .ref b), (2, .int (x))] []
  refine cn_iload_n (pc' := 13) (k := 2) rfl rfl d_Me_readText_12 rfl ?_
  refine cn_iconst (pc' := 14) k_c_m1 d_Me_readText_13 rfl ?_
  refine cn_icmp_lt (tgt := 25) (pc' := 17) d_Me_readText_14 (by decide) rfl (fun hc14 => ?_) (fun hc14 => ?_)
  · refine cn_aload_n (pc' := 26) (k := 0) rfl rfl d_Me_readText_25 rfl ?_
    refine cn_iconst (pc' := 27) k_c_0 d_Me_readText_26 rfl ?_
    refine cn_putI (pc' := 30) fl_Me_24 hm.1 rfl rfl rfl rfl d_Me_readText_27 rfl ?_
    refine cn_vret rfl d_Me_readText_30 ?_
    refine K _ _ _ _ (rd_bad hr2) (hy2.keep1 (fun a h => cn_wi_ne h) (by omega) (by omega)) (tk_len _ _) (hf12.tr (fr1.to3 (fun a h => cn_wi_ne h))) ?_
    refine pq_seq hpq (pq_of pq_bad ?_)
    have h0 : x < 0 := Int32.lt_of_lt_of_le hc14 (by decide)
    have h1 : ¬ x = -1 := fun e => by rw [e] at hc14; exact absurd hc14 (by decide)
    rw [← hx, if_neg h1, if_pos h0]
  · by_cases hneg : x < 0
    · have hm1 := i_lt_m1 hc14 hneg
      subst hm1
      refine cn_iload_n (pc' := 18) (k := 2) rfl rfl d_Me_readText_17 rfl ?_
      refine cn_aload_n (pc' := 19) (k := 0) rfl rfl d_Me_readText_18 rfl ?_
      refine cn_callV (pc' := 22) (kc1 := 0) (ks1 := 0) (kc2 := 0) (ks2 := 0) (rest := [.int (-1)]) (lvj := [(0, .ref m)]) [] mv_Me_31 hm.1 rfl rfl rfl (Nat.le_of_ble_eq_true rfl) (Nat.le_of_ble_eq_true rfl) (by omega) (by omega) (by omega) d_Me_readText_19 rfl ?_
      refine c_Me_left hm hr2 ?_
      show cn_V l en mi_Me_readText d 0 0 S I2 P Q 22 [(0, .ref m), (1, .ref b), (2, .int (-1))] [.int (nI (g.length - rp g p 4)), .int (-1)]
      refine cn_icmp_le (tgt := 31) (pc' := 25) d_Me_readText_22 (by decide) rfl (fun hc22 => ?_) (fun hc22 => ?_)
      · refine cn_aload_n (pc' := 32) (k := 0) rfl rfl d_Me_readText_31 rfl ?_
        refine cn_aload_n (pc' := 33) (k := 1) rfl rfl d_Me_readText_32 rfl ?_
        refine cn_iload_n (pc' := 34) (k := 2) rfl rfl d_Me_readText_33 rfl ?_
        refine cn_callV (pc' := 37) (kc1 := 0) (ks1 := 0) (kc2 := 0) (ks2 := 0) (rest := []) (lvj := [(0, .ref m), (1, .ref b), (2, .int (-1))]) [.ref b, .int (-1)] mv_Me_45 hm.1 rfl rfl rfl (Nat.le_of_ble_eq_true rfl) (Nat.le_of_ble_eq_true rfl) (by omega) (by omega) (by omega) d_Me_readText_34 rfl ?_
        refine c_Me_moveBytes_m1 ?_
        show cn_V l en mi_Me_readText d 0 0 S I2 P Q 37 [(0, .ref m), (1, .ref b), (2, .int (-1))] []
        refine cn_vret rfl d_Me_readText_37 ?_
        exact K _ _ _ _ hr2 hy2 (tk_len _ _) hf12 (pq_seq hpq (pq_of (r := some ([], rp g p 4)) (pq_nil (tk_len _ _)) (by rw [← hx, if_pos rfl])))
      · exact absurd (Int32.le_trans (show (-1 : Int32) ≤ 0 by decide) (nI_pos' (by omega))) (fun h => hc22 h)
    · obtain ⟨j, hj, rfl⟩ := nI_of hneg
      refine cn_iload_n (pc' := 18) (k := 2) rfl rfl d_Me_readText_17 rfl ?_
      refine cn_aload_n (pc' := 19) (k := 0) rfl rfl d_Me_readText_18 rfl ?_
      refine cn_callV (pc' := 22) (kc1 := 0) (ks1 := 0) (kc2 := 0) (ks2 := 0) (rest := [.int (nI (j))]) (lvj := [(0, .ref m)]) [] mv_Me_31 hm.1 rfl rfl rfl (Nat.le_of_ble_eq_true rfl) (Nat.le_of_ble_eq_true rfl) (by omega) (by omega) (by omega) d_Me_readText_19 rfl ?_
      refine c_Me_left hm hr2 ?_
      show cn_V l en mi_Me_readText d 0 0 S I2 P Q 22 [(0, .ref m), (1, .ref b), (2, .int (nI (j)))] [.int (nI (g.length - rp g p 4)), .int (nI (j))]
      refine cn_icmp_le_n (tgt := 31) (pc' := 25) (by omega) (by omega) d_Me_readText_22 (by decide) rfl (fun hc22 => ?_) (fun hc22 => ?_)
      · refine cn_aload_n (pc' := 32) (k := 0) rfl rfl d_Me_readText_31 rfl ?_
        refine cn_aload_n (pc' := 33) (k := 1) rfl rfl d_Me_readText_32 rfl ?_
        refine cn_iload_n (pc' := 34) (k := 2) rfl rfl d_Me_readText_33 rfl ?_
        refine cn_callV (pc' := 37) (kc1 := 0) (ks1 := 0) (kc2 := 0) (ks2 := 0) (rest := []) (lvj := [(0, .ref m), (1, .ref b), (2, .int (nI (j)))]) [.ref b, .int (nI (j))] mv_Me_45 hm.1 rfl rfl rfl (Nat.le_of_ble_eq_true rfl) (Nat.le_of_ble_eq_true rfl) (by omega) (by omega) (by omega) d_Me_readText_34 rfl ?_
        refine c_Me_moveBytes hm hb hdis (by omega) (by omega) hr2 hy2 (tk_len _ _) (fun I3 hr3 hy3 hf3 => ?_)
        show cn_V l en mi_Me_readText d 0 0 S I3 P Q 37 [(0, .ref m), (1, .ref b), (2, .int (nI (j)))] []
        refine cn_vret rfl d_Me_readText_37 ?_
        refine K _ _ _ _ hr3 hy3 (tk_len _ _) (hf12.tr hf3) ?_
        refine pq_seq hpq (pq_of (pq_mv g _ cap (rp g p 4) j _) ?_)
        rw [← hx, if_neg (nI_nm1 hj), if_neg (nI_pos hj), nI_clamp hj]
      · refine cn_aload_n (pc' := 26) (k := 0) rfl rfl d_Me_readText_25 rfl ?_
        refine cn_iconst (pc' := 27) k_c_0 d_Me_readText_26 rfl ?_
        refine cn_putI (pc' := 30) fl_Me_24 hm.1 rfl rfl rfl rfl d_Me_readText_27 rfl ?_
        refine cn_vret rfl d_Me_readText_30 ?_
        refine K _ _ _ _ (rd_bad hr2) (hy2.keep1 (fun a h => cn_wi_ne h) (by omega) (by omega)) (tk_len _ _) (hf12.tr (fr1.to3 (fun a h => cn_wi_ne h))) ?_
        refine pq_seq hpq (pq_of pq_bad ?_)
        have hp2 := hr2.2.2.2.1
        rw [← hx, if_neg (nI_nm1 hj), if_neg (nI_pos hj), nI_clamp hj]
        exact (if_neg (by omega)).symm
/-- the contract of readValue where lists may still be k deep -/
def cn_RV (l : Launch) (en : cn_E) (S : cn_S) (P : cn_P) (m b cap : Nat) (g : List Int32) (k : Nat) : Prop := ∀ (d : Nat) (I : cn_I) (Q : Option Value → cn_S → cn_I → cn_P → Prop) (p : Nat) (w : Bool) (v : List Int32), 4 + 2 * k ≤ d → rd I m g p w → ys I b v → v.length ≤ cap → (∀ (I' : cn_I) (p' : Nat) (w' : Bool) (v' : List Int32), rd I' m g p' w' → ys I' b v' → v'.length ≤ cap → fr3 I I' m b → pq (pv g k p) v cap w p' w' v' → Q none S I' P) → cn_V l en mi_Me_readValue d 0 0 S I P Q 0 [(0, .ref m), (1, .ref b), (2, .int (nI (3 - k)))] []
theorem c_Me_readList_0 (hm : ym S P m) (hb : yb S P b cap) (hdis : b + 1 < m ∨ m + 2 < b) (hr : rd I m g p w) (hy : ys I b v) (hc : v.length ≤ cap) {x : Nat} (hx3 : 3 < x) (hxb : x ≤ 10) (hd1 : 2 ≤ d) (K : ∀ (I' : cn_I) (p' : Nat) (w' : Bool) (v' : List Int32), rd I' m g p' w' → ys I' b v' → v'.length ≤ cap → fr3 I I' m b → pq (pb (pmv g 4 p) (fun _ => none)) v cap w p' w' v' → Q none S I' P) : cn_V l en mi_Me_readList d 0 0 S I P Q 0 [(0, .ref m), (1, .ref b), (2, .int (nI x))] [] := by
  obtain ⟨y, hx⟩ : ∃ y, y = rn4 g p := ⟨_, rfl⟩
  refine cn_aload_n (pc' := 1) (k := 0) rfl rfl d_Me_readList_0 rfl ?_
  refine cn_callV (pc' := 4) (kc1 := 0) (ks1 := 0) (kc2 := 0) (ks2 := 0) (rest := []) (lvj := [(0, .ref m)]) [] mv_Me_56 hm.1 rfl rfl rfl (Nat.le_of_ble_eq_true rfl) (Nat.le_of_ble_eq_true rfl) (by omega) (by omega) (by omega) d_Me_readList_1 rfl ?_
  refine c_Me_readNumber hm hr (by omega) (fun I1 hr1 hf1 => ?_)
  have hy1 := hy.keep1 hf1 (by omega) (by omega)
  rw [← hx]
  show cn_V l en mi_Me_readList d 0 0 S I1 P Q 4 [(0, .ref m), (1, .ref b), (2, .int (nI (x)))] [.int (y)]
  refine cn_istore_n (pc' := 5) (lv' := [(0, .ref m), (1, .ref b), (2, .int (nI (x))), (3, .int (y))]) rfl [1, 2, 3, 0] (Nat.le_of_ble_eq_true rfl) rfl d_Me_readList_4 rfl ?_
  refine cn_aload_n (pc' := 6) (k := 1) rfl rfl d_Me_readList_5 rfl ?_
  refine cn_iload_n (pc' := 7) (k := 3) rfl rfl d_Me_readList_6 rfl ?_
  refine cn_i2l (pc' := 8) d_Me_readList_7 rfl ?_
  refine cn_iconst (pc' := 9) k_c_4 d_Me_readList_8 rfl ?_
  refine cn_callV (pc' := 12) (kc1 := 0) (ks1 := 0) (kc2 := 0) (ks2 := 0) (rest := []) (lvj := [(0, .ref b), (1, .long ((y).toInt64)), (3, .int (nI (4)))]) [.long ((y).toInt64), .int (nI (4))] mv_Me_59 hb.1 rfl rfl rfl (Nat.le_of_ble_eq_true rfl) (Nat.le_of_ble_eq_true rfl) (by omega) (by omega) (by omega) d_Me_readList_9 rfl ?_
  refine c_By_addNumber (cap := cap) hb hy1 hc (by omega) (by omega) (fun I2 hy2 hf2 => ?_)
  rw [hx, lbs_rn4 hr] at hy2
  have hr2 := hr1.keep hf2 (by omega) (by omega) (by omega) (by omega)
  have hpq := pq_mv g v cap p 4 w
  have hf12 : fr3 I I2 m b := (hf1.to3).tr hf2.to3
  show cn_V l en mi_Me_readList d 0 0 S I2 P Q 12 [(0, .ref m), (1, .ref b), (2, .int (nI (x))), (3, .int (y))] []
  refine cn_iload_n (pc' := 13) (k := 2) rfl rfl d_Me_readList_12 rfl ?_
  refine cn_iconst (pc' := 14) k_c_3 d_Me_readList_13 rfl ?_
  refine cn_icmp_gt_n (tgt := 29) (pc' := 17) (by omega) (by omega) d_Me_readList_14 (by decide) rfl (fun hc14 => ?_) (fun hc14 => ?_)
  · refine cn_aload_n (pc' := 30) (k := 0) rfl rfl d_Me_readList_29 rfl ?_
    refine cn_iconst (pc' := 31) k_c_0 d_Me_readList_30 rfl ?_
    refine cn_putI (pc' := 34) fl_Me_24 hm.1 rfl rfl rfl rfl d_Me_readList_31 rfl ?_
    refine cn_vret rfl d_Me_readList_34 ?_
    refine K _ _ _ _ (rd_bad hr2) (hy2.keep1 (fun a h => cn_wi_ne h) (by omega) (by omega)) (tk_len _ _) (hf12.tr (fr1.to3 (fun a h => cn_wi_ne h))) ?_
    exact pq_seq hpq pq_bad
  · exact absurd hx3 hc14
theorem c_Me_readList_loop (hm : ym S P m) {k n : Nat} (hk : k ≤ 3) (hn : n ≤ 64) (hV : cn_RV l en S P m b cap g k) (hd1 : 5 + 2 * k ≤ d) : ∀ (r i : Nat) (I : cn_I) (p : Nat) (w : Bool) (v : List Int32), i + r = n → rd I m g p w → ys I b v → v.length ≤ cap → (∀ (I' : cn_I) (p' : Nat) (w' : Bool) (v' : List Int32), rd I' m g p' w' → ys I' b v' → v'.length ≤ cap → fr3 I I' m b → pq (pvs (pv g k) r p) v cap w p' w' v' → Q none S I' P) → cn_V l en mi_Me_readList d 0 0 S I P Q 38 [(0, .ref m), (1, .ref b), (2, .int (nI (3 - k))), (3, .int (nI n)), (4, .int (nI i))] [] := by
  intro r
  induction r with
  | zero =>
    intro i I p w v hik hr hy hc K
    have hw1 : w.toNat ≤ 1 := by cases w <;> decide
    refine cn_iload (pc' := 40) (k := 4) rfl d_Me_readList_38 rfl ?_
    refine cn_iload_n (pc' := 41) (k := 3) rfl rfl d_Me_readList_40 rfl ?_
    refine cn_icmp_ge_n (tgt := 63) (pc' := 44) (by omega) (by omega) d_Me_readList_41 (by decide) rfl (fun hc41 => ?_) (fun hc41 => ?_)
    · refine cn_vret rfl d_Me_readList_63 ?_
      exact K I p w v hr hy hc fr3.rf (pq_nil hc)
    · exact absurd hc41 (by omega)
  | succ r ih =>
    intro i I p w v hik hr hy hc K
    have hw1 : w.toNat ≤ 1 := by cases w <;> decide
    refine cn_iload (pc' := 40) (k := 4) rfl d_Me_readList_38 rfl ?_
    refine cn_iload_n (pc' := 41) (k := 3) rfl rfl d_Me_readList_40 rfl ?_
    refine cn_icmp_ge_n (tgt := 63) (pc' := 44) (by omega) (by omega) d_Me_readList_41 (by decide) rfl (fun hc41 => ?_) (fun hc41 => ?_)
    · exact absurd hc41 (by omega)
    · refine cn_aload_n (pc' := 45) (k := 0) rfl rfl d_Me_readList_44 rfl ?_
      refine cn_getIv (pc' := 48) (v := nI (w.toNat)) hr.2.2.1 fl_Me_24 hm.1 rfl d_Me_readList_45 rfl ?_
      refine cn_if_eq_n (tgt := 63) (pc' := 51) (by omega) d_Me_readList_48 (by decide) rfl (fun hc48 => ?_) (fun hc48 => ?_)
      · refine cn_vret rfl d_Me_readList_63 ?_
        have hwf : w = false := by cases w <;> simp_all
        subst hwf
        exact K I p false v hr hy hc fr3.rf pq_no
      · refine cn_aload_n (pc' := 52) (k := 0) rfl rfl d_Me_readList_51 rfl ?_
        refine cn_aload_n (pc' := 53) (k := 1) rfl rfl d_Me_readList_52 rfl ?_
        refine cn_iload_n (pc' := 54) (k := 2) rfl rfl d_Me_readList_53 rfl ?_
        refine cn_callV (pc' := 57) (kc1 := 0) (ks1 := 0) (kc2 := 0) (ks2 := 0) (rest := []) (lvj := [(0, .ref m), (1, .ref b), (2, .int (nI (3 - k)))]) [.ref b, .int (nI (3 - k))] mv_Me_63 hm.1 rfl rfl rfl (Nat.le_of_ble_eq_true rfl) (Nat.le_of_ble_eq_true rfl) (by omega) (by omega) (by omega) d_Me_readList_54 rfl ?_
        refine hV _ I _ p w v (by omega) hr hy hc (fun I1 p1 w1 v1 hr1 hy1 hc1 hf1 hq1 => ?_)
        show cn_V l en mi_Me_readList d 0 0 S I1 P Q 57 [(0, .ref m), (1, .ref b), (2, .int (nI (3 - k))), (3, .int (nI (n))), (4, .int (nI (i)))] []
        refine cn_iinc_n (pc' := 60) (lv' := [(0, .ref m), (1, .ref b), (2, .int (nI (3 - k))), (3, .int (nI (n))), (4, .int (nI (i + 1)))]) (k := 4) [1, 2, 3, 4, 0] rfl (Nat.le_of_ble_eq_true rfl) rfl d_Me_readList_57 rfl ?_
        refine cn_goto (tgt := 38) d_Me_readList_60 (by decide) ?_
        refine ih (i + 1) I1 p1 w1 v1 (by omega) hr1 hy1 hc1 (fun I2 p2 w2 v2 hr2 hy2 hc2 hf2 hq2 => ?_)
        exact K I2 p2 w2 v2 hr2 hy2 hc2 (hf1.tr hf2) (pq_seq hq1 hq2)
theorem c_Me_readList_S (hm : ym S P m) (hb : yb S P b cap) (hdis : b + 1 < m ∨ m + 2 < b) (hr : rd I m g p w) (hy : ys I b v) (hc : v.length ≤ cap) {k : Nat} (hk : k ≤ 3) (hV : cn_RV l en S P m b cap g k) (hd1 : 5 + 2 * k ≤ d) (K : ∀ (I' : cn_I) (p' : Nat) (w' : Bool) (v' : List Int32), rd I' m g p' w' → ys I' b v' → v'.length ≤ cap → fr3 I I' m b → pq (plx g (pv g k) p) v cap w p' w' v' → Q none S I' P) : cn_V l en mi_Me_readList d 0 0 S I P Q 0 [(0, .ref m), (1, .ref b), (2, .int (nI (3 - k)))] [] := by
  have hl2 := hr.2.2.2.2
  obtain ⟨y, hx⟩ : ∃ y, y = rn4 g p := ⟨_, rfl⟩
  refine cn_aload_n (pc' := 1) (k := 0) rfl rfl d_Me_readList_0 rfl ?_
  refine cn_callV (pc' := 4) (kc1 := 0) (ks1 := 0) (kc2 := 0) (ks2 := 0) (rest := []) (lvj := [(0, .ref m)]) [] mv_Me_56 hm.1 rfl rfl rfl (Nat.le_of_ble_eq_true rfl) (Nat.le_of_ble_eq_true rfl) (by omega) (by omega) (by omega) d_Me_readList_1 rfl ?_
  refine c_Me_readNumber hm hr (by omega) (fun I1 hr1 hf1 => ?_)
  have hy1 := hy.keep1 hf1 (by omega) (by omega)
  rw [← hx]
  show cn_V l en mi_Me_readList d 0 0 S I1 P Q 4 [(0, .ref m), (1, .ref b), (2, .int (nI (3 - k)))] [.int (y)]
  refine cn_istore_n (pc' := 5) (lv' := [(0, .ref m), (1, .ref b), (2, .int (nI (3 - k))), (3, .int (y))]) rfl [1, 2, 3, 0] (Nat.le_of_ble_eq_true rfl) rfl d_Me_readList_4 rfl ?_
  refine cn_aload_n (pc' := 6) (k := 1) rfl rfl d_Me_readList_5 rfl ?_
  refine cn_iload_n (pc' := 7) (k := 3) rfl rfl d_Me_readList_6 rfl ?_
  refine cn_i2l (pc' := 8) d_Me_readList_7 rfl ?_
  refine cn_iconst (pc' := 9) k_c_4 d_Me_readList_8 rfl ?_
  refine cn_callV (pc' := 12) (kc1 := 0) (ks1 := 0) (kc2 := 0) (ks2 := 0) (rest := []) (lvj := [(0, .ref b), (1, .long ((y).toInt64)), (3, .int (nI (4)))]) [.long ((y).toInt64), .int (nI (4))] mv_Me_59 hb.1 rfl rfl rfl (Nat.le_of_ble_eq_true rfl) (Nat.le_of_ble_eq_true rfl) (by omega) (by omega) (by omega) d_Me_readList_9 rfl ?_
  refine c_By_addNumber (cap := cap) hb hy1 hc (by omega) (by omega) (fun I2 hy2 hf2 => ?_)
  rw [hx, lbs_rn4 hr] at hy2
  have hr2 := hr1.keep hf2 (by omega) (by omega) (by omega) (by omega)
  have hpq := pq_mv g v cap p 4 w
  have hf12 : fr3 I I2 m b := (hf1.to3).tr hf2.to3
  show cn_V l en mi_Me_readList d 0 0 S I2 P Q 12 [(0, .ref m), (1, .ref b), (2, .int (nI (3 - k))), (3, .int (y))] []
  refine cn_iload_n (pc' := 13) (k := 2) rfl rfl d_Me_readList_12 rfl ?_
  refine cn_iconst (pc' := 14) k_c_3 d_Me_readList_13 rfl ?_
  refine cn_icmp_gt_n (tgt := 29) (pc' := 17) (by omega) (by omega) d_Me_readList_14 (by decide) rfl (fun hc14 => ?_) (fun hc14 => ?_)
  · exact absurd hc14 (by omega)
  · refine cn_iload_n (pc' := 18) (k := 3) rfl rfl d_Me_readList_17 rfl ?_
    refine cn_if_lt (tgt := 29) (pc' := 21) d_Me_readList_18 (by decide) rfl (fun hc18 => ?_) (fun hc18 => ?_)
    · refine cn_aload_n (pc' := 30) (k := 0) rfl rfl d_Me_readList_29 rfl ?_
      refine cn_iconst (pc' := 31) k_c_0 d_Me_readList_30 rfl ?_
      refine cn_putI (pc' := 34) fl_Me_24 hm.1 rfl rfl rfl rfl d_Me_readList_31 rfl ?_
      refine cn_vret rfl d_Me_readList_34 ?_
      refine K _ _ _ _ (rd_bad hr2) (hy2.keep1 (fun a h => cn_wi_ne h) (by omega) (by omega)) (tk_len _ _) (hf12.tr (fr1.to3 (fun a h => cn_wi_ne h))) ?_
      refine pq_seq hpq (pq_of pq_bad ?_)
      rw [← hx, if_pos hc18]
    · obtain ⟨j, hj, rfl⟩ := nI_of hc18
      refine cn_iload_n (pc' := 22) (k := 3) rfl rfl d_Me_readList_21 rfl ?_
      refine cn_aload_n (pc' := 23) (k := 0) rfl rfl d_Me_readList_22 rfl ?_
      refine cn_callV (pc' := 26) (kc1 := 0) (ks1 := 0) (kc2 := 0) (ks2 := 0) (rest := [.int (nI (j))]) (lvj := [(0, .ref m)]) [] mv_Me_31 hm.1 rfl rfl rfl (Nat.le_of_ble_eq_true rfl) (Nat.le_of_ble_eq_true rfl) (by omega) (by omega) (by omega) d_Me_readList_23 rfl ?_
      refine c_Me_left hm hr2 ?_
      show cn_V l en mi_Me_readList d 0 0 S I2 P Q 26 [(0, .ref m), (1, .ref b), (2, .int (nI (3 - k))), (3, .int (nI (j)))] [.int (nI (g.length - rp g p 4)), .int (nI (j))]
      refine cn_icmp_le_n (tgt := 35) (pc' := 29) (by omega) (by omega) d_Me_readList_26 (by decide) rfl (fun hc26 => ?_) (fun hc26 => ?_)
      · refine cn_iconst (pc' := 36) k_c_0 d_Me_readList_35 rfl ?_
        refine cn_istore (pc' := 38) (lv' := [(0, .ref m), (1, .ref b), (2, .int (nI (3 - k))), (3, .int (nI (j))), (4, .int (nI (0)))]) [1, 2, 3, 4, 0] (Nat.le_of_ble_eq_true rfl) rfl d_Me_readList_36 rfl ?_
        refine c_Me_readList_loop hm hk (by omega) hV hd1 j 0 I2 _ _ _ (by omega) hr2 hy2 (tk_len _ _) (fun I3 p3 w3 v3 hr3 hy3 hc3 hf3 hq3 => ?_)
        exact K I3 p3 w3 v3 hr3 hy3 hc3 (hf12.tr hf3) (pq_seq hpq (pq_of hq3 (by rw [← hx, if_neg (nI_pos hj), nI_clamp hj])))
      · refine cn_aload_n (pc' := 30) (k := 0) rfl rfl d_Me_readList_29 rfl ?_
        refine cn_iconst (pc' := 31) k_c_0 d_Me_readList_30 rfl ?_
        refine cn_putI (pc' := 34) fl_Me_24 hm.1 rfl rfl rfl rfl d_Me_readList_31 rfl ?_
        refine cn_vret rfl d_Me_readList_34 ?_
        refine K _ _ _ _ (rd_bad hr2) (hy2.keep1 (fun a h => cn_wi_ne h) (by omega) (by omega)) (tk_len _ _) (hf12.tr (fr1.to3 (fun a h => cn_wi_ne h))) ?_
        refine pq_seq hpq (pq_of pq_bad ?_)
        have hp2 := hr2.2.2.2.1
        rw [← hx, if_neg (nI_pos hj), nI_clamp hj]
        cases hpv : pvs (pv g k) j (rp g p 4) with
        | none => rfl
        | some a =>
          have q := pvs_len (pv_len g k) j _ a hpv
          have q1 := q.1
          have q2 := q.2 (by omega)
          omega
theorem pvc_lt {g : List Int32} {lst : Nat → Option (List Int32 × Nat)} {p : Nat} (h : ¬ p + 1 ≤ g.length) : pvc g lst p = none := if_neg h
theorem pby {g : List Int32} {p : Nat} (h : p + 1 ≤ g.length) (f : Nat → Option (List Int32 × Nat)) : pb (pmv g 1 p) f = match f (p + 1) with
    | none => none
    | some b => some (mvb g p 1 ++ b.1, b.2) := by unfold pmv pb; rw [if_pos h]
theorem pby_no {g : List Int32} {p : Nat} (h : ¬ p + 1 ≤ g.length) (f : Nat → Option (List Int32 × Nat)) : pb (pmv g 1 p) f = none := by unfold pmv pb; rw [if_neg h]
theorem pby_mv {g : List Int32} {p : Nat} (h : p + 1 ≤ g.length) (n : Nat) : pb (pmv g 1 p) (pmv g n) = if p + (1 + n) ≤ g.length then some (mvb g p (1 + n), p + (1 + n)) else none := by
  rw [pby h]
  unfold pmv
  by_cases h2 : p + 1 + n ≤ g.length
  · rw [if_pos h2, if_pos (by omega), mvb_add, Nat.add_assoc]
  · rw [if_neg h2, if_neg (by omega)]
theorem pby_tx {g : List Int32} {p : Nat} (h : p + 1 ≤ g.length) : pb (pmv g 1 p) (ptx g) = if p + 5 ≤ g.length then
        (if rn4 g (p + 1) = -1 then some (mvb g p 5, p + 5) else if rn4 g (p + 1) < 0 then none
         else if p + 5 + (rn4 g (p + 1)).toNatClampNeg ≤ g.length then some (mvb g p (5 + (rn4 g (p + 1)).toNatClampNeg), p + 5 + (rn4 g (p + 1)).toNatClampNeg) else none) else none := by
  have e5 : mvb g p 1 ++ mvb g (p + 1) 4 = mvb g p 5 := (mvb_add g p 1 4).symm
  rw [pby h]
  unfold ptx pmv pb
  by_cases h5 : p + 5 ≤ g.length
  · rw [if_pos (show p + 1 + 4 ≤ g.length by omega), if_pos h5]
    dsimp only
    by_cases hm1 : rn4 g (p + 1) = -1
    · rw [if_pos hm1, if_pos hm1]
      dsimp only
      rw [List.append_nil, e5]
    · rw [if_neg hm1, if_neg hm1]
      by_cases hn : rn4 g (p + 1) < 0
      · rw [if_pos hn, if_pos hn]
      · rw [if_neg hn, if_neg hn]
        by_cases hj : p + 5 + (rn4 g (p + 1)).toNatClampNeg ≤ g.length
        · rw [if_pos (show p + 1 + 4 + (rn4 g (p + 1)).toNatClampNeg ≤ g.length by omega), if_pos hj]
          dsimp only
          rw [← List.append_assoc, e5, show p + 1 + 4 = p + 5 from rfl, ← mvb_add]
        · rw [if_neg (show ¬ p + 1 + 4 + (rn4 g (p + 1)).toNatClampNeg ≤ g.length by omega), if_neg hj]
  · rw [if_neg (show ¬ p + 1 + 4 ≤ g.length by omega), if_neg h5]
theorem pby_ls {g : List Int32} {p : Nat} (h : p + 1 ≤ g.length) (f : Nat → Option (List Int32 × Nat)) : pb (pmv g 1 p) (plx g f) = if p + 5 ≤ g.length then pvl g f p else none := by
  have e5 : mvb g p 1 ++ mvb g (p + 1) 4 = mvb g p 5 := (mvb_add g p 1 4).symm
  rw [pby h]
  unfold plx pmv pb pvl
  by_cases h5 : p + 5 ≤ g.length
  · rw [if_pos (show p + 1 + 4 ≤ g.length by omega), if_pos h5]
    dsimp only
    by_cases hn : rn4 g (p + 1) < 0
    · rw [if_pos hn, if_pos hn]
    · rw [if_neg hn, if_neg hn, show p + 1 + 4 = p + 5 from rfl]
      cases pvs f (rn4 g (p + 1)).toNatClampNeg (p + 5) with
      | none => rfl
      | some a =>
        dsimp only
        rw [← List.append_assoc, e5]
  · rw [if_neg (show ¬ p + 1 + 4 ≤ g.length by omega), if_neg h5]
theorem pby_l0 {g : List Int32} {p : Nat} (h : p + 1 ≤ g.length) : pb (pmv g 1 p) (fun q => pb (pmv g 4 q) (fun _ => none)) = if p + 5 ≤ g.length then (fun _ => none) p else none := by
  rw [pby h]
  unfold pmv pb
  by_cases h5 : p + 5 ≤ g.length
  · rw [if_pos (show p + 1 + 4 ≤ g.length by omega), if_pos h5]
  · rw [if_neg (show ¬ p + 1 + 4 ≤ g.length by omega), if_neg h5]
theorem c_Me_readValue_k (hm : ym S P m) (hb : yb S P b cap) (hdis : b + 1 < m ∨ m + 2 < b) (k : Nat) (hk : k ≤ 3) (L : Nat → Option (List Int32 × Nat)) (hL : ∀ (d : Nat) (I : cn_I) (Q : Option Value → cn_S → cn_I → cn_P → Prop) (p : Nat) (w : Bool) (v : List Int32), 3 + 2 * k ≤ d → rd I m g p w → ys I b v → v.length ≤ cap → (∀ (I' : cn_I) (p' : Nat) (w' : Bool) (v' : List Int32), rd I' m g p' w' → ys I' b v' → v'.length ≤ cap → fr3 I I' m b → pq (L p) v cap w p' w' v' → Q none S I' P) → cn_V l en mi_Me_readList d 0 0 S I P Q 0 [(0, .ref m), (1, .ref b), (2, .int (nI (3 - k + 1)))] []) (lst : Nat → Option (List Int32 × Nat)) (hlst : ∀ p, p + 1 ≤ g.length → pb (pmv g 1 p) L = if p + 5 ≤ g.length then lst p else none) (hpv : ∀ p, pv g k p = pvc g lst p) : cn_RV l en S P m b cap g k := by
  intro d I Q p w v hd1 hr hy hc K
  have hl2 := hr.2.2.2.2
  obtain ⟨c, hcx⟩ : ∃ c, c = g.getD p 0 := ⟨_, rfl⟩
  have hk0 : ∀ n, n < 256 → ∀ n2, n2 < 256 → n ≠ n2 → ¬ nI n = nI n2 := fun n h1 n2 h2 hne e => hne ((nI_eq (by omega) (by omega)).mp e)
  refine cn_aload_n (pc' := 1) (k := 0) rfl rfl d_Me_readValue_0 rfl ?_
  refine cn_callV (pc' := 4) (kc1 := 0) (ks1 := 0) (kc2 := 0) (ks2 := 0) (rest := []) (lvj := [(0, .ref m)]) [] mv_Me_39 hm.1 rfl rfl rfl (Nat.le_of_ble_eq_true rfl) (Nat.le_of_ble_eq_true rfl) (by omega) (by omega) (by omega) d_Me_readValue_1 rfl ?_
  refine c_Me_readByte hm hr (fun I1 hr1 hf1 => ?_)
  have hy1 := hy.keep1 hf1 (by omega) (by omega)
  rw [← hcx]
  show cn_V l en mi_Me_readValue d 0 0 S I1 P Q 4 [(0, .ref m), (1, .ref b), (2, .int (nI (3 - k)))] [.int (c)]
  refine cn_istore_n (pc' := 5) (lv' := [(0, .ref m), (1, .ref b), (2, .int (nI (3 - k))), (3, .int (c))]) rfl [1, 2, 3, 0] (Nat.le_of_ble_eq_true rfl) rfl d_Me_readValue_4 rfl ?_
  refine cn_aload_n (pc' := 6) (k := 1) rfl rfl d_Me_readValue_5 rfl ?_
  refine cn_iload_n (pc' := 7) (k := 3) rfl rfl d_Me_readValue_6 rfl ?_
  refine cn_callV (pc' := 10) (kc1 := 0) (ks1 := 0) (kc2 := 0) (ks2 := 0) (rest := []) (lvj := [(0, .ref b), (1, .int (c))]) [.int (c)] mv_Me_42 hb.1 rfl rfl rfl (Nat.le_of_ble_eq_true rfl) (Nat.le_of_ble_eq_true rfl) (by omega) (by omega) (by omega) d_Me_readValue_7 rfl ?_
  refine c_By_add (cap := cap) hb hy1 hc (fun I2 hy2 hf2 => ?_)
  rw [hcx, hr.g8, ← mvb_1] at hy2
  have hr2 := hr1.keep hf2 (by omega) (by omega) (by omega) (by omega)
  have hpq := pq_mv g v cap p 1 w
  have hf12 : fr3 I I2 m b := (hf1.to3).tr hf2.to3
  show cn_V l en mi_Me_readValue d 0 0 S I2 P Q 10 [(0, .ref m), (1, .ref b), (2, .int (nI (3 - k))), (3, .int (c))] []
  refine cn_iload_n (pc' := 11) (k := 3) rfl rfl d_Me_readValue_10 rfl ?_
  by_cases hk11_0 : c = nI 0
  · refine cn_lookup (tgt := 68) (off := 57) d_Me_readValue_11 (by decide) (by rw [hk11_0] <;> decide +kernel) (by decide) ?_
    refine cn_goto (tgt := 133) d_Me_readValue_68 (by decide) ?_
    refine cn_vret rfl d_Me_readValue_133 ?_
    refine K I2 _ _ _ hr2 hy2 (tk_len _ _) hf12 (pq_of hpq ?_)
    by_cases hp1 : p + 1 ≤ g.length
    · rw [hpv]; unfold pvc; rw [if_pos hp1, if_pos (hcx.symm.trans hk11_0)]; exact if_pos hp1
    · rw [hpv, pvc_lt hp1]; exact if_neg hp1
  by_cases hk11_1 : c = nI 1
  · refine cn_lookup (tgt := 71) (off := 60) d_Me_readValue_11 (by decide) (by rw [hk11_1] <;> decide +kernel) (by decide) ?_
    refine cn_aload_n (pc' := 72) (k := 1) rfl rfl d_Me_readValue_71 rfl ?_
    refine cn_aload_n (pc' := 73) (k := 0) rfl rfl d_Me_readValue_72 rfl ?_
    refine cn_callV (pc' := 76) (kc1 := 0) (ks1 := 0) (kc2 := 0) (ks2 := 0) (rest := [.ref b]) (lvj := [(0, .ref m)]) [] mv_Me_39 hm.1 rfl rfl rfl (Nat.le_of_ble_eq_true rfl) (Nat.le_of_ble_eq_true rfl) (by omega) (by omega) (by omega) d_Me_readValue_73 rfl ?_
    refine c_Me_readByte hm hr2 (fun I3 hr3 hf3 => ?_)
    rw [rp_add, rw_add] at hr3
    rw [gd_rp]
    have hy3 := hy2.keep1 hf3 (by omega) (by omega)
    show cn_V l en mi_Me_readValue d 0 0 S I3 P Q 76 [(0, .ref m), (1, .ref b), (2, .int (nI (3 - k))), (3, .int (c))] [.int (g.getD (p + 1) 0), .ref b]
    refine cn_if_ne (tgt := 83) (pc' := 79) d_Me_readValue_76 (by decide) rfl (fun hc76 => ?_) (fun hc76 => ?_)
    · refine cn_iconst (pc' := 84) k_c_1 d_Me_readValue_83 rfl ?_
      refine cn_callV (pc' := 87) (kc1 := 0) (ks1 := 0) (kc2 := 0) (ks2 := 0) (rest := []) (lvj := [(0, .ref b), (1, .int (nI (1)))]) [.int (nI (1))] mv_Me_42 hb.1 rfl rfl rfl (Nat.le_of_ble_eq_true rfl) (Nat.le_of_ble_eq_true rfl) (by omega) (by omega) (by omega) d_Me_readValue_84 rfl ?_
      refine c_By_add (cap := cap) hb hy3 (tk_len _ _) (fun I4 hy4 hf4 => ?_)
      have hr4 := hr3.keep hf4 (by omega) (by omega) (by omega) (by omega)
      show cn_V l en mi_Me_readValue d 0 0 S I4 P Q 87 [(0, .ref m), (1, .ref b), (2, .int (nI (3 - k))), (3, .int (c))] []
      refine cn_goto (tgt := 133) d_Me_readValue_87 (by decide) ?_
      refine cn_vret rfl d_Me_readValue_133 ?_
      refine K I4 _ _ _ hr4 hy4 (tk_len _ _) ((hf12.tr hf3.to3).tr hf4.to3) ?_
      have e1 : mvb g p 1 = [nI 1] := by rw [mvb_1, ← hcx, hk11_1]
      rw [tk_app, e1]
      refine ⟨fun h => (by rw [h]; rfl), fun h hn => ?_, fun h a ha => ?_⟩
      · rw [hpv] at hn
        unfold pvc at hn
        by_cases hp1 : p + 1 ≤ g.length
        · rw [if_pos hp1, if_neg (fun e => hk11_0 (hcx.trans e)), if_pos (hcx.symm.trans hk11_1)] at hn
          by_cases hp2 : p + 2 ≤ g.length
          · rw [if_pos hp2] at hn; cases hn
          · unfold rw_; rw [h, decide_eq_false hp2]; rfl
        · unfold rw_; rw [h, decide_eq_false (by omega)]; rfl
      · rw [hpv] at ha
        unfold pvc at ha
        by_cases hp1 : p + 1 ≤ g.length
        · rw [if_pos hp1, if_neg (fun e => hk11_0 (hcx.trans e)), if_pos (hcx.symm.trans hk11_1)] at ha
          by_cases hp2 : p + 2 ≤ g.length
          · rw [if_pos hp2, if_neg hc76] at ha
            cases ha
            exact ⟨by unfold rw_; rw [h, decide_eq_true hp2]; rfl, Nat.min_eq_left hp2, rfl⟩
          · rw [if_neg hp2] at ha; cases ha
        · rw [if_neg hp1] at ha; cases ha
    · refine cn_iconst (pc' := 80) k_c_0 d_Me_readValue_79 rfl ?_
      refine cn_goto (tgt := 84) d_Me_readValue_80 (by decide) ?_
      refine cn_callV (pc' := 87) (kc1 := 0) (ks1 := 0) (kc2 := 0) (ks2 := 0) (rest := []) (lvj := [(0, .ref b), (1, .int (nI (0)))]) [.int (nI (0))] mv_Me_42 hb.1 rfl rfl rfl (Nat.le_of_ble_eq_true rfl) (Nat.le_of_ble_eq_true rfl) (by omega) (by omega) (by omega) d_Me_readValue_84 rfl ?_
      refine c_By_add (cap := cap) hb hy3 (tk_len _ _) (fun I4 hy4 hf4 => ?_)
      have hr4 := hr3.keep hf4 (by omega) (by omega) (by omega) (by omega)
      show cn_V l en mi_Me_readValue d 0 0 S I4 P Q 87 [(0, .ref m), (1, .ref b), (2, .int (nI (3 - k))), (3, .int (c))] []
      refine cn_goto (tgt := 133) d_Me_readValue_87 (by decide) ?_
      refine cn_vret rfl d_Me_readValue_133 ?_
      refine K I4 _ _ _ hr4 hy4 (tk_len _ _) ((hf12.tr hf3.to3).tr hf4.to3) ?_
      have e1 : mvb g p 1 = [nI 1] := by rw [mvb_1, ← hcx, hk11_1]
      rw [tk_app, e1]
      refine ⟨fun h => (by rw [h]; rfl), fun h hn => ?_, fun h a ha => ?_⟩
      · rw [hpv] at hn
        unfold pvc at hn
        by_cases hp1 : p + 1 ≤ g.length
        · rw [if_pos hp1, if_neg (fun e => hk11_0 (hcx.trans e)), if_pos (hcx.symm.trans hk11_1)] at hn
          by_cases hp2 : p + 2 ≤ g.length
          · rw [if_pos hp2] at hn; cases hn
          · unfold rw_; rw [h, decide_eq_false hp2]; rfl
        · unfold rw_; rw [h, decide_eq_false (by omega)]; rfl
      · rw [hpv] at ha
        unfold pvc at ha
        by_cases hp1 : p + 1 ≤ g.length
        · rw [if_pos hp1, if_neg (fun e => hk11_0 (hcx.trans e)), if_pos (hcx.symm.trans hk11_1)] at ha
          by_cases hp2 : p + 2 ≤ g.length
          · rw [if_pos hp2, if_pos hc76] at ha
            cases ha
            exact ⟨by unfold rw_; rw [h, decide_eq_true hp2]; rfl, Nat.min_eq_left hp2, rfl⟩
          · rw [if_neg hp2] at ha; cases ha
        · rw [if_neg hp1] at ha; cases ha
  by_cases hk11_6 : c = nI 6
  · refine cn_lookup (tgt := 90) (off := 79) d_Me_readValue_11 (by decide) (by rw [hk11_6] <;> decide +kernel) (by decide) ?_
    refine cn_aload_n (pc' := 91) (k := 0) rfl rfl d_Me_readValue_90 rfl ?_
    refine cn_aload_n (pc' := 92) (k := 1) rfl rfl d_Me_readValue_91 rfl ?_
    refine cn_iconst (pc' := 93) k_c_4 d_Me_readValue_92 rfl ?_
    refine cn_callV (pc' := 96) (kc1 := 0) (ks1 := 0) (kc2 := 0) (ks2 := 0) (rest := []) (lvj := [(0, .ref m), (1, .ref b), (2, .int (nI (4)))]) [.ref b, .int (nI (4))] mv_Me_45 hm.1 rfl rfl rfl (Nat.le_of_ble_eq_true rfl) (Nat.le_of_ble_eq_true rfl) (by omega) (by omega) (by omega) d_Me_readValue_93 rfl ?_
    refine c_Me_moveBytes hm hb hdis (by omega) (by omega) hr2 hy2 (tk_len _ _) (fun I3 hr3 hy3 hf3 => ?_)
    show cn_V l en mi_Me_readValue d 0 0 S I3 P Q 96 [(0, .ref m), (1, .ref b), (2, .int (nI (3 - k))), (3, .int (c))] []
    refine cn_goto (tgt := 133) d_Me_readValue_96 (by decide) ?_
    refine cn_vret rfl d_Me_readValue_133 ?_
    refine K I3 _ _ _ hr3 hy3 (tk_len _ _) (hf12.tr hf3) (pq_of (pq_seq hpq (pq_mv g _ cap (rp g p 1) 4 _)) ?_)
    by_cases hp1 : p + 1 ≤ g.length
    · rw [pby_mv hp1]; rw [hpv]; unfold pvc; rw [if_pos hp1, if_neg (fun e => hk11_0 (hcx.trans e)), if_neg (fun e => hk11_1 (hcx.trans e)), if_pos (hcx.symm.trans hk11_6)]
    · rw [hpv, pvc_lt hp1, pby_no hp1]
  by_cases hk11_8 : c = nI 8
  · refine cn_lookup (tgt := 99) (off := 88) d_Me_readValue_11 (by decide) (by rw [hk11_8] <;> decide +kernel) (by decide) ?_
    refine cn_aload_n (pc' := 100) (k := 0) rfl rfl d_Me_readValue_99 rfl ?_
    refine cn_aload_n (pc' := 101) (k := 1) rfl rfl d_Me_readValue_100 rfl ?_
    refine cn_bipush (pc' := 103) k_b_8 d_Me_readValue_101 rfl ?_
    refine cn_callV (pc' := 106) (kc1 := 0) (ks1 := 0) (kc2 := 0) (ks2 := 0) (rest := []) (lvj := [(0, .ref m), (1, .ref b), (2, .int (nI (8)))]) [.ref b, .int (nI (8))] mv_Me_45 hm.1 rfl rfl rfl (Nat.le_of_ble_eq_true rfl) (Nat.le_of_ble_eq_true rfl) (by omega) (by omega) (by omega) d_Me_readValue_103 rfl ?_
    refine c_Me_moveBytes hm hb hdis (by omega) (by omega) hr2 hy2 (tk_len _ _) (fun I3 hr3 hy3 hf3 => ?_)
    show cn_V l en mi_Me_readValue d 0 0 S I3 P Q 106 [(0, .ref m), (1, .ref b), (2, .int (nI (3 - k))), (3, .int (c))] []
    refine cn_goto (tgt := 133) d_Me_readValue_106 (by decide) ?_
    refine cn_vret rfl d_Me_readValue_133 ?_
    refine K I3 _ _ _ hr3 hy3 (tk_len _ _) (hf12.tr hf3) (pq_of (pq_seq hpq (pq_mv g _ cap (rp g p 1) 8 _)) ?_)
    by_cases hp1 : p + 1 ≤ g.length
    · rw [pby_mv hp1]; rw [hpv]; unfold pvc; rw [if_pos hp1, if_neg (fun e => hk11_0 (hcx.trans e)), if_neg (fun e => hk11_1 (hcx.trans e)), if_neg (fun e => hk11_6 (hcx.trans e)), if_pos (hcx.symm.trans hk11_8)]
    · rw [hpv, pvc_lt hp1, pby_no hp1]
  by_cases hk11_12 : c = nI 12
  · refine cn_lookup (tgt := 109) (off := 98) d_Me_readValue_11 (by decide) (by rw [hk11_12] <;> decide +kernel) (by decide) ?_
    refine cn_aload_n (pc' := 110) (k := 0) rfl rfl d_Me_readValue_109 rfl ?_
    refine cn_aload_n (pc' := 111) (k := 1) rfl rfl d_Me_readValue_110 rfl ?_
    refine cn_callV (pc' := 114) (kc1 := 0) (ks1 := 0) (kc2 := 0) (ks2 := 0) (rest := []) (lvj := [(0, .ref m), (1, .ref b)]) [.ref b] mv_Me_49 hm.1 rfl rfl rfl (Nat.le_of_ble_eq_true rfl) (Nat.le_of_ble_eq_true rfl) (by omega) (by omega) (by omega) d_Me_readValue_111 rfl ?_
    refine c_Me_readText hm hb hdis hr2 hy2 (tk_len _ _) (by omega) (fun I3 p3 w3 v3 hr3 hy3 hc3 hf3 hq3 => ?_)
    show cn_V l en mi_Me_readValue d 0 0 S I3 P Q 114 [(0, .ref m), (1, .ref b), (2, .int (nI (3 - k))), (3, .int (c))] []
    refine cn_goto (tgt := 133) d_Me_readValue_114 (by decide) ?_
    refine cn_vret rfl d_Me_readValue_133 ?_
    refine K I3 _ _ _ hr3 hy3 hc3 (hf12.tr hf3) (pq_of (pq_seq (f := ptx g) hpq hq3) ?_)
    by_cases hp1 : p + 1 ≤ g.length
    · rw [pby_tx hp1]; rw [hpv]; unfold pvc; rw [if_pos hp1, if_neg (fun e => hk11_0 (hcx.trans e)), if_neg (fun e => hk11_1 (hcx.trans e)), if_neg (fun e => hk11_6 (hcx.trans e)), if_neg (fun e => hk11_8 (hcx.trans e)), if_pos (hcx.symm.trans hk11_12)]
    · rw [hpv, pvc_lt hp1, pby_no hp1]
  by_cases hk11_152 : c = nI 152
  · refine cn_lookup (tgt := 117) (off := 106) d_Me_readValue_11 (by decide) (by rw [hk11_152] <;> decide +kernel) (by decide) ?_
    refine cn_aload_n (pc' := 118) (k := 0) rfl rfl d_Me_readValue_117 rfl ?_
    refine cn_aload_n (pc' := 119) (k := 1) rfl rfl d_Me_readValue_118 rfl ?_
    refine cn_iload_n (pc' := 120) (k := 2) rfl rfl d_Me_readValue_119 rfl ?_
    refine cn_iconst (pc' := 121) k_c_1 d_Me_readValue_120 rfl ?_
    refine cn_iadd_n (pc' := 122) d_Me_readValue_121 rfl ?_
    refine cn_callV (pc' := 125) (kc1 := 0) (ks1 := 0) (kc2 := 0) (ks2 := 0) (rest := []) (lvj := [(0, .ref m), (1, .ref b), (2, .int (nI ((3 - k) + 1)))]) [.ref b, .int (nI ((3 - k) + 1))] mv_Me_53 hm.1 rfl rfl rfl (Nat.le_of_ble_eq_true rfl) (Nat.le_of_ble_eq_true rfl) (by omega) (by omega) (by omega) d_Me_readValue_122 rfl ?_
    refine hL _ I2 _ _ _ _ (by omega) hr2 hy2 (tk_len _ _) (fun I3 p3 w3 v3 hr3 hy3 hc3 hf3 hq3 => ?_)
    show cn_V l en mi_Me_readValue d 0 0 S I3 P Q 125 [(0, .ref m), (1, .ref b), (2, .int (nI (3 - k))), (3, .int (c))] []
    refine cn_goto (tgt := 133) d_Me_readValue_125 (by decide) ?_
    refine cn_vret rfl d_Me_readValue_133 ?_
    refine K I3 _ _ _ hr3 hy3 hc3 (hf12.tr hf3) (pq_of (pq_seq (f := L) hpq hq3) ?_)
    by_cases hp1 : p + 1 ≤ g.length
    · rw [hlst p hp1]; rw [hpv]; unfold pvc; rw [if_pos hp1, if_neg (fun e => hk11_0 (hcx.trans e)), if_neg (fun e => hk11_1 (hcx.trans e)), if_neg (fun e => hk11_6 (hcx.trans e)), if_neg (fun e => hk11_8 (hcx.trans e)), if_neg (fun e => hk11_12 (hcx.trans e)), if_pos (hcx.symm.trans hk11_152)]
    · rw [hpv, pvc_lt hp1, pby_no hp1]
  · refine cn_lookup (tgt := 128) (off := 117) d_Me_readValue_11 (by decide) (by rw [show (#[(0, 57), (1, 60), (6, 79), (8, 88), (12, 98), (152, 106)] : Array (Int × Int)).toList = [(0, 57), (1, 60), (6, 79), (8, 88), (12, 98), (152, 106)] from rfl, lv_osw hk11_0 (by decide +kernel), lv_osw hk11_1 (by decide +kernel), lv_osw hk11_6 (by decide +kernel), lv_osw hk11_8 (by decide +kernel), lv_osw hk11_12 (by decide +kernel), lv_osw hk11_152 (by decide +kernel)] <;> rfl) (by decide) ?_
    refine cn_aload_n (pc' := 129) (k := 0) rfl rfl d_Me_readValue_128 rfl ?_
    refine cn_iconst (pc' := 130) k_c_0 d_Me_readValue_129 rfl ?_
    refine cn_putI (pc' := 133) fl_Me_24 hm.1 rfl rfl rfl rfl d_Me_readValue_130 rfl ?_
    refine cn_vret rfl d_Me_readValue_133 ?_
    refine K _ _ _ _ (rd_bad hr2) (hy2.keep1 (fun a h => cn_wi_ne h) (by omega) (by omega)) (tk_len _ _) (hf12.tr (fr1.to3 (fun a h => cn_wi_ne h))) (pq_of pq_bad ?_)
    by_cases hp1 : p + 1 ≤ g.length
    · rw [hpv]; unfold pvc; rw [if_pos hp1, if_neg (fun e => hk11_0 (hcx.trans e)), if_neg (fun e => hk11_1 (hcx.trans e)), if_neg (fun e => hk11_6 (hcx.trans e)), if_neg (fun e => hk11_8 (hcx.trans e)), if_neg (fun e => hk11_12 (hcx.trans e)), if_neg (fun e => hk11_152 (hcx.trans e))]
    · rw [hpv, pvc_lt hp1]
theorem c_RV (hm : ym S P m) (hb : yb S P b cap) (hdis : b + 1 < m ∨ m + 2 < b) : ∀ k, k ≤ 3 → cn_RV l en S P m b cap g k
  | 0, hk => c_Me_readValue_k hm hb hdis 0 hk (fun q => pb (pmv g 4 q) (fun _ => none)) (fun d I Q p w v hd hr hy hc K => c_Me_readList_0 hm hb hdis hr hy hc (by omega) (by omega) (by omega) K) (fun _ => none) (fun p h => pby_l0 h) (fun _ => rfl)
  | k + 1, hk => c_Me_readValue_k hm hb hdis (k + 1) hk (plx g (pv g k)) (fun d I Q p w v hd hr hy hc K => by
      rw [show 3 - (k + 1) + 1 = 3 - k by omega]
      exact c_Me_readList_S hm hb hdis hr hy hc (by omega) (c_RV hm hb hdis k (by omega)) (by omega) K) (pvl g (pv g k)) (fun p h => pby_ls h _) (fun _ => rfl)
end
end
section
/-- live, begun, the latest sequence number, the message in part (request, chunks), the bytes of the message -/
abbrev sCh : Type := Bool × Bool × Int32 × Option (Int32 × Nat) × List Int32
def yc (S : cn_S) (P : cn_P) (h : Nat) : Prop := cn_ob S h 1 ∧ P h 0 = some (h + 1) ∧ ym S P (h + 1)
def chs (I : cn_I) (h : Nat) (c : sCh) : Prop := I h 1 = nI c.1.toNat ∧ I h 2 = nI c.2.1.toNat ∧ I h 3 = c.2.2.1 ∧ I h 4 = nI c.2.2.2.1.isSome.toNat ∧ (∀ q, c.2.2.2.1 = some q → I h 5 = q.1 ∧ I h 6 = nI q.2 ∧ q.2 ≤ 12) ∧ ys I (h + 2) c.2.2.2.2 ∧ c.2.2.2.2.length ≤ 64
def sp_next (latest seq : Int32) : Bool := decide (seq = latest + nI 1) || (decide (nI 1000 ≤ latest) && (decide (0 ≤ seq) && decide (seq ≤ nI 9)))
def sp_close (c : sCh) (kd : Nat) (seq req : Int32) (cnt : Nat) : Bool := (c.2.1 && !sp_next c.2.2.1 seq) || (match c.2.2.2.1 with
  | none => false
  | some q => decide (req ≠ q.1) || (decide (kd ≠ 2) && (decide (64 < c.2.2.2.2.length + cnt) || decide (q.2 = 12))))
def sp_take (c : sCh) (kd : Nat) (seq req : Int32) (x : Int64) (cnt : Nat) : sCh := if kd = 2 then (c.1, true, seq, none, c.2.2.2.2) else match c.2.2.2.1 with
  | none => (c.1, true, seq, if kd = 0 then some (req, 1) else none, lbs x cnt)
  | some q => (c.1, true, seq, if kd = 0 then some (q.1, q.2 + 1) else none, c.2.2.2.2 ++ lbs x cnt)
/-- nothing changed but the channel's own cell and its message's bytes -/
def frc (I I' : cn_I) (h : Nat) : Prop := ∀ a, a ≠ h → a ≠ h + 2 → a ≠ h + 3 → I' a = I a
theorem lbs_len (x : Int64) (n : Nat) : (lbs x n).length = n := by simp [lbs]
theorem ys_cong1 {I : cn_I} {h k b : Nat} {z : Int32} {v : List Int32} (hy : ys I b v) (h1 : b ≠ h) (h2 : b + 1 ≠ h) : ys (cn_wi I h k z) b v := hy.congr (cn_wi_ne h1) (cn_wi_ne h2)
theorem tn_le (b : Bool) : b.toNat ≤ 1 := by cases b <;> decide
theorem tn_1 {b : Bool} (h : ¬ b.toNat = 0) : b = true := by cases b <;> simp_all
theorem tn_0 {b : Bool} (h : b.toNat = 0) : b = false := by cases b <;> simp_all
section
variable {l : Launch} {en : cn_E} {d : Nat} {S : cn_S} {I : cn_I} {P : cn_P} {Q : Option Value → cn_S → cn_I → cn_P → Prop}
variable {h : Nat} {c : sCh}
theorem c_Ch_isNext {seq : Int32} (hc0 : yc S P h) (hs : chs I h c) (K : Q (some (.int (nI (sp_next c.2.2.1 seq).toNat))) S I P) : cn_V l en mi_Ch_isNext d 0 0 S I P Q 0 [(0, .ref h), (1, .int seq)] [] := by
  refine cn_iload_n (pc' := 1) (k := 1) rfl rfl d_Ch_isNext_0 rfl ?_
  refine cn_aload_n (pc' := 2) (k := 0) rfl rfl d_Ch_isNext_1 rfl ?_
  refine cn_getIv (pc' := 5) (v := c.2.2.1) hs.2.2.1 fl_Ch_48 hc0.1 rfl d_Ch_isNext_2 rfl ?_
  refine cn_iconst (pc' := 6) k_c_1 d_Ch_isNext_5 rfl ?_
  refine cn_iadd (pc' := 7) d_Ch_isNext_6 rfl ?_
  refine cn_icmp_eq (tgt := 30) (pc' := 10) d_Ch_isNext_7 (by decide) rfl (fun hc7 => ?_) (fun hc7 => ?_)
  · refine cn_iconst (pc' := 31) k_c_1 d_Ch_isNext_30 rfl ?_
    refine cn_goto (tgt := 35) d_Ch_isNext_31 (by decide) ?_
    refine cn_zret rfl (Or.inr rfl) d_Ch_isNext_35 ?_
    have e : (sp_next c.2.2.1 seq).toNat = 1 := by
      unfold sp_next
      simp [hc7]
    rw [e] at K
    exact K
  · refine cn_aload_n (pc' := 11) (k := 0) rfl rfl d_Ch_isNext_10 rfl ?_
    refine cn_getIv (pc' := 14) (v := c.2.2.1) hs.2.2.1 fl_Ch_48 hc0.1 rfl d_Ch_isNext_11 rfl ?_
    refine cn_sipush (pc' := 17) k_s_1000 d_Ch_isNext_14 rfl ?_
    refine cn_icmp_lt (tgt := 34) (pc' := 20) d_Ch_isNext_17 (by decide) rfl (fun hc17 => ?_) (fun hc17 => ?_)
    · have hx17 : ¬ nI 1000 ≤ c.2.2.1 := Int32.not_le.mpr hc17
      refine cn_iconst (pc' := 35) k_c_0 d_Ch_isNext_34 rfl ?_
      refine cn_zret rfl (Or.inl rfl) d_Ch_isNext_35 ?_
      have e : (sp_next c.2.2.1 seq).toNat = 0 := by
        unfold sp_next
        simp [hc7, hx17]
      rw [e] at K
      exact K
    · have hx17 : nI 1000 ≤ c.2.2.1 := Int32.not_lt.mp hc17
      refine cn_iload_n (pc' := 21) (k := 1) rfl rfl d_Ch_isNext_20 rfl ?_
      refine cn_if_lt (tgt := 34) (pc' := 24) d_Ch_isNext_21 (by decide) rfl (fun hc21 => ?_) (fun hc21 => ?_)
      · have hx21 : ¬ 0 ≤ seq := Int32.not_le.mpr hc21
        refine cn_iconst (pc' := 35) k_c_0 d_Ch_isNext_34 rfl ?_
        refine cn_zret rfl (Or.inl rfl) d_Ch_isNext_35 ?_
        have e : (sp_next c.2.2.1 seq).toNat = 0 := by
          unfold sp_next
          simp [hc7, hx17, hx21]
        rw [e] at K
        exact K
      · have hx21 : 0 ≤ seq := Int32.not_lt.mp hc21
        refine cn_iload_n (pc' := 25) (k := 1) rfl rfl d_Ch_isNext_24 rfl ?_
        refine cn_bipush (pc' := 27) k_b_9 d_Ch_isNext_25 rfl ?_
        refine cn_icmp_gt (tgt := 34) (pc' := 30) d_Ch_isNext_27 (by decide) rfl (fun hc27 => ?_) (fun hc27 => ?_)
        · have hx27 : ¬ seq ≤ nI 9 := Int32.not_le.mpr hc27
          refine cn_iconst (pc' := 35) k_c_0 d_Ch_isNext_34 rfl ?_
          refine cn_zret rfl (Or.inl rfl) d_Ch_isNext_35 ?_
          have e : (sp_next c.2.2.1 seq).toNat = 0 := by
            unfold sp_next
            simp [hc7, hx17, hx21, hx27]
          rw [e] at K
          exact K
        · have hx27 : seq ≤ nI 9 := Int32.not_lt.mp hc27
          refine cn_iconst (pc' := 31) k_c_1 d_Ch_isNext_30 rfl ?_
          refine cn_goto (tgt := 35) d_Ch_isNext_31 (by decide) ?_
          refine cn_zret rfl (Or.inr rfl) d_Ch_isNext_35 ?_
          have e : (sp_next c.2.2.1 seq).toNat = 1 := by
            unfold sp_next
            simp [hc7, hx17, hx21, hx27]
          rw [e] at K
          exact K
theorem c_Ch_restart (hc0 : yc S P h) (hs : chs I h c) (K : ∀ I', chs I' h (true, false, c.2.2.1, none, c.2.2.2.2) → frc I I' h → Q none S I' P) : cn_V l en mi_Ch_restart d 0 0 S I P Q 0 [(0, .ref h)] [] := by
  refine cn_aload_n (pc' := 1) (k := 0) rfl rfl d_Ch_restart_0 rfl ?_
  refine cn_iconst (pc' := 2) k_c_1 d_Ch_restart_1 rfl ?_
  refine cn_putI (pc' := 5) fl_Ch_18 hc0.1 rfl rfl rfl rfl d_Ch_restart_2 rfl ?_
  refine cn_aload_n (pc' := 6) (k := 0) rfl rfl d_Ch_restart_5 rfl ?_
  refine cn_iconst (pc' := 7) k_c_0 d_Ch_restart_6 rfl ?_
  refine cn_putI (pc' := 10) fl_Ch_22 hc0.1 rfl rfl rfl rfl d_Ch_restart_7 rfl ?_
  refine cn_aload_n (pc' := 11) (k := 0) rfl rfl d_Ch_restart_10 rfl ?_
  refine cn_iconst (pc' := 12) k_c_0 d_Ch_restart_11 rfl ?_
  refine cn_putI (pc' := 15) fl_Ch_25 hc0.1 rfl rfl rfl rfl d_Ch_restart_12 rfl ?_
  refine cn_vret rfl d_Ch_restart_15 ?_
  refine K _ ⟨by simp [cn_wi, upd], by simp [cn_wi, upd], by simp [cn_wi, upd, hs.2.2.1], by simp [cn_wi, upd], fun q hq => (by cases hq), ?_, hs.2.2.2.2.2.2⟩ (fun a h1 _ _ => by simp [cn_wi, h1])
  exact ys_cong1 (ys_cong1 (ys_cong1 hs.2.2.2.2.2.1 (by omega) (by omega)) (by omega) (by omega)) (by omega) (by omega)
theorem c_Ch_close (hc0 : yc S P h) (hs : chs I h c) (K : ∀ I', chs I' h (false, c.2.1, c.2.2.1, none, c.2.2.2.2) → frc I I' h → Q none S I' P) : cn_V l en mi_Ch_close d 0 0 S I P Q 0 [(0, .ref h)] [] := by
  refine cn_aload_n (pc' := 1) (k := 0) rfl rfl d_Ch_close_0 rfl ?_
  refine cn_iconst (pc' := 2) k_c_0 d_Ch_close_1 rfl ?_
  refine cn_putI (pc' := 5) fl_Ch_18 hc0.1 rfl rfl rfl rfl d_Ch_close_2 rfl ?_
  refine cn_aload_n (pc' := 6) (k := 0) rfl rfl d_Ch_close_5 rfl ?_
  refine cn_iconst (pc' := 7) k_c_0 d_Ch_close_6 rfl ?_
  refine cn_putI (pc' := 10) fl_Ch_25 hc0.1 rfl rfl rfl rfl d_Ch_close_7 rfl ?_
  refine cn_vret rfl d_Ch_close_10 ?_
  refine K _ ⟨by simp [cn_wi, upd], by simp [cn_wi, upd, hs.2.1], by simp [cn_wi, upd, hs.2.2.1], by simp [cn_wi, upd], fun q hq => (by cases hq), ?_, hs.2.2.2.2.2.2⟩ (fun a h1 _ _ => by simp [cn_wi, h1])
  exact ys_cong1 (ys_cong1 hs.2.2.2.2.2.1 (by omega) (by omega)) (by omega) (by omega)
theorem c_Ch_mustClose {kd cnt : Nat} {seq req : Int32} (hc0 : yc S P h) (hs : chs I h c) (hkd : kd ≤ 2) (hcnt : cnt ≤ 8) (hd1 : 1 ≤ d) (K : Q (some (.int (nI (sp_close c kd seq req cnt).toNat))) S I P) : cn_V l en mi_Ch_mustClose d 0 0 S I P Q 0 [(0, .ref h), (1, .int (nI kd)), (2, .int seq), (3, .int req), (4, .int (nI cnt))] [] := by
  have hb1 := tn_le c.2.1
  have hb2 := tn_le c.2.2.2.1.isSome
  have hb3 := tn_le (sp_next c.2.2.1 seq)
  have hml := hs.2.2.2.2.2.2
  refine cn_aload_n (pc' := 1) (k := 0) rfl rfl d_Ch_mustClose_0 rfl ?_
  refine cn_getIv (pc' := 4) (v := nI (c.2.1.toNat)) hs.2.1 fl_Ch_22 hc0.1 rfl d_Ch_mustClose_1 rfl ?_
  refine cn_if_eq_n (tgt := 17) (pc' := 7) (by omega) d_Ch_mustClose_4 (by decide) rfl (fun hc4 => ?_) (fun hc4 => ?_)
  · have hx4 : c.2.1 = false := tn_0 hc4
    refine cn_aload_n (pc' := 18) (k := 0) rfl rfl d_Ch_mustClose_17 rfl ?_
    refine cn_getIv (pc' := 21) (v := nI (c.2.2.2.1.isSome.toNat)) hs.2.2.2.1 fl_Ch_25 hc0.1 rfl d_Ch_mustClose_18 rfl ?_
    refine cn_if_eq_n (tgt := 34) (pc' := 24) (by omega) d_Ch_mustClose_21 (by decide) rfl (fun hc21 => ?_) (fun hc21 => ?_)
    · have hq : c.2.2.2.1 = none := by cases hh : c.2.2.2.1 with | none => rfl | some x => rw [hh] at hc21; cases hc21
      refine cn_iload_n (pc' := 35) (k := 1) rfl rfl d_Ch_mustClose_34 rfl ?_
      refine cn_iconst (pc' := 36) k_c_2 d_Ch_mustClose_35 rfl ?_
      refine cn_icmp_eq_n (tgt := 77) (pc' := 39) (by omega) (by omega) d_Ch_mustClose_36 (by decide) rfl (fun hc36 => ?_) (fun hc36 => ?_)
      · refine cn_iconst (pc' := 78) k_c_0 d_Ch_mustClose_77 rfl ?_
        refine cn_zret rfl (Or.inl rfl) d_Ch_mustClose_78 ?_
        have e : (sp_close c kd seq req cnt).toNat = 0 := by
          unfold sp_close
          rw [hx4]
          rw [hq]
          simp [hc36]
        rw [e] at K
        exact K
      · refine cn_aload_n (pc' := 40) (k := 0) rfl rfl d_Ch_mustClose_39 rfl ?_
        refine cn_getIv (pc' := 43) (v := nI (c.2.2.2.1.isSome.toNat)) hs.2.2.2.1 fl_Ch_25 hc0.1 rfl d_Ch_mustClose_40 rfl ?_
        refine cn_if_eq_n (tgt := 77) (pc' := 46) (by omega) d_Ch_mustClose_43 (by decide) rfl (fun hc43 => ?_) (fun hc43 => ?_)
        · refine cn_iconst (pc' := 78) k_c_0 d_Ch_mustClose_77 rfl ?_
          refine cn_zret rfl (Or.inl rfl) d_Ch_mustClose_78 ?_
          have e : (sp_close c kd seq req cnt).toNat = 0 := by
            unfold sp_close
            rw [hx4]
            rw [hq]
            simp [hc36]
          rw [e] at K
          exact K
        · exact absurd (by rw [hq]; rfl) hc43
    · obtain ⟨q, hq⟩ := Option.isSome_iff_exists.mp (tn_1 hc21)
      have hq6 := (hs.2.2.2.2.1 q hq).2.2
      refine cn_iload_n (pc' := 25) (k := 3) rfl rfl d_Ch_mustClose_24 rfl ?_
      refine cn_aload_n (pc' := 26) (k := 0) rfl rfl d_Ch_mustClose_25 rfl ?_
      refine cn_getIv (pc' := 29) (v := q.1) (hs.2.2.2.2.1 q hq).1 fl_Ch_32 hc0.1 rfl d_Ch_mustClose_26 rfl ?_
      refine cn_icmp_eq (tgt := 34) (pc' := 32) d_Ch_mustClose_29 (by decide) rfl (fun hc29 => ?_) (fun hc29 => ?_)
      · refine cn_iload_n (pc' := 35) (k := 1) rfl rfl d_Ch_mustClose_34 rfl ?_
        refine cn_iconst (pc' := 36) k_c_2 d_Ch_mustClose_35 rfl ?_
        refine cn_icmp_eq_n (tgt := 77) (pc' := 39) (by omega) (by omega) d_Ch_mustClose_36 (by decide) rfl (fun hc36 => ?_) (fun hc36 => ?_)
        · refine cn_iconst (pc' := 78) k_c_0 d_Ch_mustClose_77 rfl ?_
          refine cn_zret rfl (Or.inl rfl) d_Ch_mustClose_78 ?_
          have e : (sp_close c kd seq req cnt).toNat = 0 := by
            unfold sp_close
            rw [hx4]
            rw [hq]
            simp [hc29, hc36]
          rw [e] at K
          exact K
        · refine cn_aload_n (pc' := 40) (k := 0) rfl rfl d_Ch_mustClose_39 rfl ?_
          refine cn_getIv (pc' := 43) (v := nI (c.2.2.2.1.isSome.toNat)) hs.2.2.2.1 fl_Ch_25 hc0.1 rfl d_Ch_mustClose_40 rfl ?_
          refine cn_if_eq_n (tgt := 77) (pc' := 46) (by omega) d_Ch_mustClose_43 (by decide) rfl (fun hc43 => ?_) (fun hc43 => ?_)
          · exact absurd hc43 (by rw [hq]; exact Nat.one_ne_zero)
          · refine cn_aload_n (pc' := 47) (k := 0) rfl rfl d_Ch_mustClose_46 rfl ?_
            refine cn_getP (pc' := 50) (b := (h + 1)) hc0.2.1 fl_Ch_12 hc0.1 rfl d_Ch_mustClose_47 rfl ?_
            refine cn_getP (pc' := 53) (b := (h + 2)) hc0.2.2.2.1 fl_Ch_36 hc0.2.2.1 rfl d_Ch_mustClose_50 rfl ?_
            refine cn_getIv (pc' := 56) (v := nI (c.2.2.2.2.length)) hs.2.2.2.2.2.1.1 fl_Ch_40 hc0.2.2.2.2.1 rfl d_Ch_mustClose_53 rfl ?_
            refine cn_iload (pc' := 58) (k := 4) rfl d_Ch_mustClose_56 rfl ?_
            refine cn_iadd_n (pc' := 59) d_Ch_mustClose_58 rfl ?_
            refine cn_bipush (pc' := 61) k_b_64 d_Ch_mustClose_59 rfl ?_
            refine cn_icmp_gt_n (tgt := 73) (pc' := 64) (by omega) (by omega) d_Ch_mustClose_61 (by decide) rfl (fun hc61 => ?_) (fun hc61 => ?_)
            · have hx61 : 64 < c.2.2.2.2.length + cnt := hc61
              refine cn_iconst (pc' := 74) k_c_1 d_Ch_mustClose_73 rfl ?_
              refine cn_goto (tgt := 78) d_Ch_mustClose_74 (by decide) ?_
              refine cn_zret rfl (Or.inr rfl) d_Ch_mustClose_78 ?_
              have e : (sp_close c kd seq req cnt).toNat = 1 := by
                unfold sp_close
                rw [hx4]
                rw [hq]
                simp [hc29, hc36, hx61]
              rw [e] at K
              exact K
            · have hx61 : ¬ 64 < c.2.2.2.2.length + cnt := hc61
              refine cn_aload_n (pc' := 65) (k := 0) rfl rfl d_Ch_mustClose_64 rfl ?_
              refine cn_getIv (pc' := 68) (v := nI (q.2)) (hs.2.2.2.2.1 q hq).2.1 fl_Ch_45 hc0.1 rfl d_Ch_mustClose_65 rfl ?_
              refine cn_bipush (pc' := 70) k_b_12 d_Ch_mustClose_68 rfl ?_
              refine cn_icmp_ne_n (tgt := 77) (pc' := 73) (by omega) (by omega) d_Ch_mustClose_70 (by decide) rfl (fun hc70 => ?_) (fun hc70 => ?_)
              · refine cn_iconst (pc' := 78) k_c_0 d_Ch_mustClose_77 rfl ?_
                refine cn_zret rfl (Or.inl rfl) d_Ch_mustClose_78 ?_
                have e : (sp_close c kd seq req cnt).toNat = 0 := by
                  unfold sp_close
                  rw [hx4]
                  rw [hq]
                  simp [hc29, hc36, hx61, hc70]
                rw [e] at K
                exact K
              · refine cn_iconst (pc' := 74) k_c_1 d_Ch_mustClose_73 rfl ?_
                refine cn_goto (tgt := 78) d_Ch_mustClose_74 (by decide) ?_
                refine cn_zret rfl (Or.inr rfl) d_Ch_mustClose_78 ?_
                have e : (sp_close c kd seq req cnt).toNat = 1 := by
                  unfold sp_close
                  rw [hx4]
                  rw [hq]
                  simp [hc29, hc36, hx61, hc70]
                rw [e] at K
                exact K
      · refine cn_iconst (pc' := 33) k_c_1 d_Ch_mustClose_32 rfl ?_
        refine cn_zret rfl (Or.inr rfl) d_Ch_mustClose_33 ?_
        have e : (sp_close c kd seq req cnt).toNat = 1 := by
          unfold sp_close
          rw [hx4]
          rw [hq]
          simp [hc29]
        rw [e] at K
        exact K
  · have hx4 : c.2.1 = true := tn_1 hc4
    refine cn_aload_n (pc' := 8) (k := 0) rfl rfl d_Ch_mustClose_7 rfl ?_
    refine cn_iload_n (pc' := 9) (k := 2) rfl rfl d_Ch_mustClose_8 rfl ?_
    refine cn_callV (pc' := 12) (kc1 := 0) (ks1 := 0) (kc2 := 0) (ks2 := 0) (rest := []) (lvj := [(0, .ref h), (1, .int (seq))]) [.int (seq)] mv_Ch_28 hc0.1 rfl rfl rfl (Nat.le_of_ble_eq_true rfl) (Nat.le_of_ble_eq_true rfl) (by omega) (by omega) (by omega) d_Ch_mustClose_9 rfl ?_
    refine c_Ch_isNext hc0 hs ?_
    show cn_V l en mi_Ch_mustClose d 0 0 S I P Q 12 [(0, .ref h), (1, .int (nI (kd))), (2, .int (seq)), (3, .int (req)), (4, .int (nI (cnt)))] [.int (nI ((sp_next c.2.2.1 seq).toNat))]
    refine cn_if_ne_n (tgt := 17) (pc' := 15) (by omega) d_Ch_mustClose_12 (by decide) rfl (fun hc12 => ?_) (fun hc12 => ?_)
    · have hx12 : sp_next c.2.2.1 seq = true := tn_1 hc12
      refine cn_aload_n (pc' := 18) (k := 0) rfl rfl d_Ch_mustClose_17 rfl ?_
      refine cn_getIv (pc' := 21) (v := nI (c.2.2.2.1.isSome.toNat)) hs.2.2.2.1 fl_Ch_25 hc0.1 rfl d_Ch_mustClose_18 rfl ?_
      refine cn_if_eq_n (tgt := 34) (pc' := 24) (by omega) d_Ch_mustClose_21 (by decide) rfl (fun hc21 => ?_) (fun hc21 => ?_)
      · have hq : c.2.2.2.1 = none := by cases hh : c.2.2.2.1 with | none => rfl | some x => rw [hh] at hc21; cases hc21
        refine cn_iload_n (pc' := 35) (k := 1) rfl rfl d_Ch_mustClose_34 rfl ?_
        refine cn_iconst (pc' := 36) k_c_2 d_Ch_mustClose_35 rfl ?_
        refine cn_icmp_eq_n (tgt := 77) (pc' := 39) (by omega) (by omega) d_Ch_mustClose_36 (by decide) rfl (fun hc36 => ?_) (fun hc36 => ?_)
        · refine cn_iconst (pc' := 78) k_c_0 d_Ch_mustClose_77 rfl ?_
          refine cn_zret rfl (Or.inl rfl) d_Ch_mustClose_78 ?_
          have e : (sp_close c kd seq req cnt).toNat = 0 := by
            unfold sp_close
            rw [hx4]
            rw [hx12]
            rw [hq]
            simp [hc36]
          rw [e] at K
          exact K
        · refine cn_aload_n (pc' := 40) (k := 0) rfl rfl d_Ch_mustClose_39 rfl ?_
          refine cn_getIv (pc' := 43) (v := nI (c.2.2.2.1.isSome.toNat)) hs.2.2.2.1 fl_Ch_25 hc0.1 rfl d_Ch_mustClose_40 rfl ?_
          refine cn_if_eq_n (tgt := 77) (pc' := 46) (by omega) d_Ch_mustClose_43 (by decide) rfl (fun hc43 => ?_) (fun hc43 => ?_)
          · refine cn_iconst (pc' := 78) k_c_0 d_Ch_mustClose_77 rfl ?_
            refine cn_zret rfl (Or.inl rfl) d_Ch_mustClose_78 ?_
            have e : (sp_close c kd seq req cnt).toNat = 0 := by
              unfold sp_close
              rw [hx4]
              rw [hx12]
              rw [hq]
              simp [hc36]
            rw [e] at K
            exact K
          · exact absurd (by rw [hq]; rfl) hc43
      · obtain ⟨q, hq⟩ := Option.isSome_iff_exists.mp (tn_1 hc21)
        have hq6 := (hs.2.2.2.2.1 q hq).2.2
        refine cn_iload_n (pc' := 25) (k := 3) rfl rfl d_Ch_mustClose_24 rfl ?_
        refine cn_aload_n (pc' := 26) (k := 0) rfl rfl d_Ch_mustClose_25 rfl ?_
        refine cn_getIv (pc' := 29) (v := q.1) (hs.2.2.2.2.1 q hq).1 fl_Ch_32 hc0.1 rfl d_Ch_mustClose_26 rfl ?_
        refine cn_icmp_eq (tgt := 34) (pc' := 32) d_Ch_mustClose_29 (by decide) rfl (fun hc29 => ?_) (fun hc29 => ?_)
        · refine cn_iload_n (pc' := 35) (k := 1) rfl rfl d_Ch_mustClose_34 rfl ?_
          refine cn_iconst (pc' := 36) k_c_2 d_Ch_mustClose_35 rfl ?_
          refine cn_icmp_eq_n (tgt := 77) (pc' := 39) (by omega) (by omega) d_Ch_mustClose_36 (by decide) rfl (fun hc36 => ?_) (fun hc36 => ?_)
          · refine cn_iconst (pc' := 78) k_c_0 d_Ch_mustClose_77 rfl ?_
            refine cn_zret rfl (Or.inl rfl) d_Ch_mustClose_78 ?_
            have e : (sp_close c kd seq req cnt).toNat = 0 := by
              unfold sp_close
              rw [hx4]
              rw [hx12]
              rw [hq]
              simp [hc29, hc36]
            rw [e] at K
            exact K
          · refine cn_aload_n (pc' := 40) (k := 0) rfl rfl d_Ch_mustClose_39 rfl ?_
            refine cn_getIv (pc' := 43) (v := nI (c.2.2.2.1.isSome.toNat)) hs.2.2.2.1 fl_Ch_25 hc0.1 rfl d_Ch_mustClose_40 rfl ?_
            refine cn_if_eq_n (tgt := 77) (pc' := 46) (by omega) d_Ch_mustClose_43 (by decide) rfl (fun hc43 => ?_) (fun hc43 => ?_)
            · exact absurd hc43 (by rw [hq]; exact Nat.one_ne_zero)
            · refine cn_aload_n (pc' := 47) (k := 0) rfl rfl d_Ch_mustClose_46 rfl ?_
              refine cn_getP (pc' := 50) (b := (h + 1)) hc0.2.1 fl_Ch_12 hc0.1 rfl d_Ch_mustClose_47 rfl ?_
              refine cn_getP (pc' := 53) (b := (h + 2)) hc0.2.2.2.1 fl_Ch_36 hc0.2.2.1 rfl d_Ch_mustClose_50 rfl ?_
              refine cn_getIv (pc' := 56) (v := nI (c.2.2.2.2.length)) hs.2.2.2.2.2.1.1 fl_Ch_40 hc0.2.2.2.2.1 rfl d_Ch_mustClose_53 rfl ?_
              refine cn_iload (pc' := 58) (k := 4) rfl d_Ch_mustClose_56 rfl ?_
              refine cn_iadd_n (pc' := 59) d_Ch_mustClose_58 rfl ?_
              refine cn_bipush (pc' := 61) k_b_64 d_Ch_mustClose_59 rfl ?_
              refine cn_icmp_gt_n (tgt := 73) (pc' := 64) (by omega) (by omega) d_Ch_mustClose_61 (by decide) rfl (fun hc61 => ?_) (fun hc61 => ?_)
              · have hx61 : 64 < c.2.2.2.2.length + cnt := hc61
                refine cn_iconst (pc' := 74) k_c_1 d_Ch_mustClose_73 rfl ?_
                refine cn_goto (tgt := 78) d_Ch_mustClose_74 (by decide) ?_
                refine cn_zret rfl (Or.inr rfl) d_Ch_mustClose_78 ?_
                have e : (sp_close c kd seq req cnt).toNat = 1 := by
                  unfold sp_close
                  rw [hx4]
                  rw [hx12]
                  rw [hq]
                  simp [hc29, hc36, hx61]
                rw [e] at K
                exact K
              · have hx61 : ¬ 64 < c.2.2.2.2.length + cnt := hc61
                refine cn_aload_n (pc' := 65) (k := 0) rfl rfl d_Ch_mustClose_64 rfl ?_
                refine cn_getIv (pc' := 68) (v := nI (q.2)) (hs.2.2.2.2.1 q hq).2.1 fl_Ch_45 hc0.1 rfl d_Ch_mustClose_65 rfl ?_
                refine cn_bipush (pc' := 70) k_b_12 d_Ch_mustClose_68 rfl ?_
                refine cn_icmp_ne_n (tgt := 77) (pc' := 73) (by omega) (by omega) d_Ch_mustClose_70 (by decide) rfl (fun hc70 => ?_) (fun hc70 => ?_)
                · refine cn_iconst (pc' := 78) k_c_0 d_Ch_mustClose_77 rfl ?_
                  refine cn_zret rfl (Or.inl rfl) d_Ch_mustClose_78 ?_
                  have e : (sp_close c kd seq req cnt).toNat = 0 := by
                    unfold sp_close
                    rw [hx4]
                    rw [hx12]
                    rw [hq]
                    simp [hc29, hc36, hx61, hc70]
                  rw [e] at K
                  exact K
                · refine cn_iconst (pc' := 74) k_c_1 d_Ch_mustClose_73 rfl ?_
                  refine cn_goto (tgt := 78) d_Ch_mustClose_74 (by decide) ?_
                  refine cn_zret rfl (Or.inr rfl) d_Ch_mustClose_78 ?_
                  have e : (sp_close c kd seq req cnt).toNat = 1 := by
                    unfold sp_close
                    rw [hx4]
                    rw [hx12]
                    rw [hq]
                    simp [hc29, hc36, hx61, hc70]
                  rw [e] at K
                  exact K
        · refine cn_iconst (pc' := 33) k_c_1 d_Ch_mustClose_32 rfl ?_
          refine cn_zret rfl (Or.inr rfl) d_Ch_mustClose_33 ?_
          have e : (sp_close c kd seq req cnt).toNat = 1 := by
            unfold sp_close
            rw [hx4]
            rw [hx12]
            rw [hq]
            simp [hc29]
          rw [e] at K
          exact K
    · have hx12 : sp_next c.2.2.1 seq = false := tn_0 hc12
      refine cn_iconst (pc' := 16) k_c_1 d_Ch_mustClose_15 rfl ?_
      refine cn_zret rfl (Or.inr rfl) d_Ch_mustClose_16 ?_
      have e : (sp_close c kd seq req cnt).toNat = 1 := by
        unfold sp_close
        rw [hx4]
        rw [hx12]
        simp []
      rw [e] at K
      exact K
theorem c_Ch_take {kd cnt : Nat} {seq req : Int32} {x : Int64} (hc0 : yc S P h) (hs : chs I h c) (hkd : kd ≤ 2) (hcnt : cnt ≤ 8) (hok : kd = 2 ∨ ∀ q, c.2.2.2.1 = some q → q.2 < 12 ∧ c.2.2.2.2.length + cnt ≤ 64) (hd1 : 2 ≤ d) (K : ∀ I', chs I' h (sp_take c kd seq req x cnt) → frc I I' h → Q none S I' P) : cn_V l en mi_Ch_take d 0 0 S I P Q 0 [(0, .ref h), (1, .int (nI kd)), (2, .int seq), (3, .int req), (4, .long x), (6, .int (nI cnt))] [] := by
  have hb2 := tn_le c.2.2.2.1.isSome
  have hml := hs.2.2.2.2.2.2
  have hyb := hc0.2.2.2.2
  refine cn_aload_n (pc' := 1) (k := 0) rfl rfl d_Ch_take_0 rfl ?_
  refine cn_iconst (pc' := 2) k_c_1 d_Ch_take_1 rfl ?_
  refine cn_putI (pc' := 5) fl_Ch_22 hc0.1 rfl rfl rfl rfl d_Ch_take_2 rfl ?_
  refine cn_aload_n (pc' := 6) (k := 0) rfl rfl d_Ch_take_5 rfl ?_
  refine cn_iload_n (pc' := 7) (k := 2) rfl rfl d_Ch_take_6 rfl ?_
  refine cn_putI (pc' := 10) fl_Ch_48 hc0.1 rfl rfl rfl rfl d_Ch_take_7 rfl ?_
  refine cn_iload_n (pc' := 11) (k := 1) rfl rfl d_Ch_take_10 rfl ?_
  refine cn_iconst (pc' := 12) k_c_2 d_Ch_take_11 rfl ?_
  refine cn_icmp_ne_n (tgt := 21) (pc' := 15) (by omega) (by omega) d_Ch_take_12 (by decide) rfl (fun hc12 => ?_) (fun hc12 => ?_)
  · refine cn_aload_n (pc' := 22) (k := 0) rfl rfl d_Ch_take_21 rfl ?_
    refine cn_getIv (pc' := 25) (v := nI (c.2.2.2.1.isSome.toNat)) (by simp [cn_wi, upd, hs.2.2.2.1]) fl_Ch_25 hc0.1 rfl d_Ch_take_22 rfl ?_
    refine cn_if_ne_n (tgt := 48) (pc' := 28) (by omega) d_Ch_take_25 (by decide) rfl (fun hc25 => ?_) (fun hc25 => ?_)
    · obtain ⟨q, hq⟩ := Option.isSome_iff_exists.mp (tn_1 hc25)
      obtain ⟨hq5, hq6, hq12⟩ := hs.2.2.2.2.1 q hq
      obtain ⟨hlt, hle⟩ := (hok.resolve_left hc12) q hq
      refine cn_aload_n (pc' := 49) (k := 0) rfl rfl d_Ch_take_48 rfl ?_
      refine cn_getP (pc' := 52) (b := (h + 1)) hc0.2.1 fl_Ch_12 hc0.1 rfl d_Ch_take_49 rfl ?_
      refine cn_getP (pc' := 55) (b := (h + 2)) hc0.2.2.2.1 fl_Ch_36 hc0.2.2.1 rfl d_Ch_take_52 rfl ?_
      refine cn_lload (pc' := 57) (k := 4) rfl d_Ch_take_55 rfl ?_
      refine cn_iload (pc' := 59) (k := 5) rfl d_Ch_take_57 rfl ?_
      refine cn_callV (pc' := 62) (kc1 := 0) (ks1 := 0) (kc2 := 0) (ks2 := 0) (rest := []) (lvj := [(0, .ref ((h + 2))), (1, .long (x)), (3, .int (nI (cnt)))]) [.long (x), .int (nI (cnt))] mv_Ch_54 hc0.2.2.2.2.1 rfl rfl rfl (Nat.le_of_ble_eq_true rfl) (Nat.le_of_ble_eq_true rfl) (by omega) (by omega) (by omega) d_Ch_take_59 rfl ?_
      refine c_By_addNumber (b := h + 2) (cap := 64) hyb (ys_cong1 (ys_cong1 hs.2.2.2.2.2.1 (by omega) (by omega)) (by omega) (by omega)) hml (by omega) (by omega) (fun I1 hy1 hf1 => ?_)
      rw [List.take_of_length_le (by rw [List.length_append, lbs_len]; omega)] at hy1
      show cn_V l en mi_Ch_take d 0 0 S I1 P Q 62 [(0, .ref h), (1, .int (nI (kd))), (2, .int (seq)), (3, .int (req)), (4, .long (x)), (6, .int (nI (cnt)))] []
      refine cn_aload_n (pc' := 63) (k := 0) rfl rfl d_Ch_take_62 rfl ?_
      refine cn_dup (pc' := 64) rfl d_Ch_take_63 rfl ?_
      refine cn_getIv (pc' := 67) (v := nI (q.2)) (by rw [hf1 h (by omega) (by omega)]; simp [cn_wi, upd, (hs.2.2.2.2.1 q hq).2.1]) fl_Ch_45 hc0.1 rfl d_Ch_take_64 rfl ?_
      refine cn_iconst (pc' := 68) k_c_1 d_Ch_take_67 rfl ?_
      refine cn_iadd_n (pc' := 69) d_Ch_take_68 rfl ?_
      refine cn_putI (pc' := 72) fl_Ch_45 hc0.1 rfl rfl rfl rfl d_Ch_take_69 rfl ?_
      refine cn_aload_n (pc' := 73) (k := 0) rfl rfl d_Ch_take_72 rfl ?_
      refine cn_iload_n (pc' := 74) (k := 1) rfl rfl d_Ch_take_73 rfl ?_
      refine cn_if_ne_n (tgt := 81) (pc' := 77) (by omega) d_Ch_take_74 (by decide) rfl (fun hc74 => ?_) (fun hc74 => ?_)
      · refine cn_iconst (pc' := 82) k_c_0 d_Ch_take_81 rfl ?_
        refine cn_putI (pc' := 85) fl_Ch_25 hc0.1 rfl rfl rfl rfl d_Ch_take_82 rfl ?_
        refine cn_vret rfl d_Ch_take_85 ?_
        have e : sp_take c kd seq req x cnt = (c.1, true, seq, none, c.2.2.2.2 ++ lbs x cnt) := by unfold sp_take; rw [if_neg hc12, hq]; dsimp only; rw [if_neg hc74]
        rw [e] at K
        have hrow : I1 h = _ := hf1 h (by omega) (by omega)
        refine K _ ⟨by simp [cn_wi, upd, hrow, hs.1], by simp [cn_wi, upd, hrow], by simp [cn_wi, upd, hrow], by simp [cn_wi, upd], fun q9 hq9 => (by cases hq9), ys_cong1 (ys_cong1 hy1 (by omega) (by omega)) (by omega) (by omega), ?_⟩ ?_
        · show (c.2.2.2.2 ++ lbs x cnt).length ≤ 64; rw [List.length_append, lbs_len]; omega
        · intro a h1 h2 h3
          rw [cn_wi_ne h1, cn_wi_ne h1, hf1 a h2 h3, cn_wi_ne h1, cn_wi_ne h1]
      · refine cn_iconst (pc' := 78) k_c_1 d_Ch_take_77 rfl ?_
        refine cn_goto (tgt := 82) d_Ch_take_78 (by decide) ?_
        refine cn_putI (pc' := 85) fl_Ch_25 hc0.1 rfl rfl rfl rfl d_Ch_take_82 rfl ?_
        refine cn_vret rfl d_Ch_take_85 ?_
        have e : sp_take c kd seq req x cnt = (c.1, true, seq, some (q.1, q.2 + 1), c.2.2.2.2 ++ lbs x cnt) := by unfold sp_take; rw [if_neg hc12, hq]; dsimp only; rw [if_pos hc74]
        rw [e] at K
        have hrow : I1 h = _ := hf1 h (by omega) (by omega)
        refine K _ ⟨by simp [cn_wi, upd, hrow, hs.1], by simp [cn_wi, upd, hrow], by simp [cn_wi, upd, hrow], by simp [cn_wi, upd], fun q9 hq9 => (by cases hq9; exact ⟨by simp [cn_wi, upd, hrow, hq5], by simp [cn_wi, upd], by show q.2 + 1 ≤ 12; omega⟩), ys_cong1 (ys_cong1 hy1 (by omega) (by omega)) (by omega) (by omega), ?_⟩ ?_
        · show (c.2.2.2.2 ++ lbs x cnt).length ≤ 64; rw [List.length_append, lbs_len]; omega
        · intro a h1 h2 h3
          rw [cn_wi_ne h1, cn_wi_ne h1, hf1 a h2 h3, cn_wi_ne h1, cn_wi_ne h1]
    · have hq : c.2.2.2.1 = none := by cases hh : c.2.2.2.1 with | none => rfl | some x => rw [hh] at hc25; cases hc25
      refine cn_aload_n (pc' := 29) (k := 0) rfl rfl d_Ch_take_28 rfl ?_
      refine cn_getP (pc' := 32) (b := (h + 1)) hc0.2.1 fl_Ch_12 hc0.1 rfl d_Ch_take_29 rfl ?_
      refine cn_getP (pc' := 35) (b := (h + 2)) hc0.2.2.2.1 fl_Ch_36 hc0.2.2.1 rfl d_Ch_take_32 rfl ?_
      refine cn_callV (pc' := 38) (kc1 := 0) (ks1 := 0) (kc2 := 0) (ks2 := 0) (rest := []) (lvj := [(0, .ref ((h + 2)))]) [] mv_Ch_51 hc0.2.2.2.2.1 rfl rfl rfl (Nat.le_of_ble_eq_true rfl) (Nat.le_of_ble_eq_true rfl) (by omega) (by omega) (by omega) d_Ch_take_35 rfl ?_
      refine c_By_clear (b := h + 2) (cap := 64) hyb (fun I1 hy1 hf1 => ?_)
      show cn_V l en mi_Ch_take d 0 0 S I1 P Q 38 [(0, .ref h), (1, .int (nI (kd))), (2, .int (seq)), (3, .int (req)), (4, .long (x)), (6, .int (nI (cnt)))] []
      refine cn_aload_n (pc' := 39) (k := 0) rfl rfl d_Ch_take_38 rfl ?_
      refine cn_iload_n (pc' := 40) (k := 3) rfl rfl d_Ch_take_39 rfl ?_
      refine cn_putI (pc' := 43) fl_Ch_32 hc0.1 rfl rfl rfl rfl d_Ch_take_40 rfl ?_
      refine cn_aload_n (pc' := 44) (k := 0) rfl rfl d_Ch_take_43 rfl ?_
      refine cn_iconst (pc' := 45) k_c_0 d_Ch_take_44 rfl ?_
      refine cn_putI (pc' := 48) fl_Ch_45 hc0.1 rfl rfl rfl rfl d_Ch_take_45 rfl ?_
      refine cn_aload_n (pc' := 49) (k := 0) rfl rfl d_Ch_take_48 rfl ?_
      refine cn_getP (pc' := 52) (b := (h + 1)) hc0.2.1 fl_Ch_12 hc0.1 rfl d_Ch_take_49 rfl ?_
      refine cn_getP (pc' := 55) (b := (h + 2)) hc0.2.2.2.1 fl_Ch_36 hc0.2.2.1 rfl d_Ch_take_52 rfl ?_
      refine cn_lload (pc' := 57) (k := 4) rfl d_Ch_take_55 rfl ?_
      refine cn_iload (pc' := 59) (k := 5) rfl d_Ch_take_57 rfl ?_
      refine cn_callV (pc' := 62) (kc1 := 0) (ks1 := 0) (kc2 := 0) (ks2 := 0) (rest := []) (lvj := [(0, .ref ((h + 2))), (1, .long (x)), (3, .int (nI (cnt)))]) [.long (x), .int (nI (cnt))] mv_Ch_54 hc0.2.2.2.2.1 rfl rfl rfl (Nat.le_of_ble_eq_true rfl) (Nat.le_of_ble_eq_true rfl) (by omega) (by omega) (by omega) d_Ch_take_59 rfl ?_
      refine c_By_addNumber (b := h + 2) (cap := 64) hyb (ys_cong1 (ys_cong1 hy1 (by omega) (by omega)) (by omega) (by omega)) (Nat.zero_le _) (by omega) (by omega) (fun I2 hy2 hf2 => ?_)
      rw [List.nil_append, List.take_of_length_le (by rw [lbs_len]; omega)] at hy2
      show cn_V l en mi_Ch_take d 0 0 S I2 P Q 62 [(0, .ref h), (1, .int (nI (kd))), (2, .int (seq)), (3, .int (req)), (4, .long (x)), (6, .int (nI (cnt)))] []
      refine cn_aload_n (pc' := 63) (k := 0) rfl rfl d_Ch_take_62 rfl ?_
      refine cn_dup (pc' := 64) rfl d_Ch_take_63 rfl ?_
      refine cn_getIv (pc' := 67) (v := nI (0)) (by rw [hf2 h (by omega) (by omega)]; simp [cn_wi, upd]) fl_Ch_45 hc0.1 rfl d_Ch_take_64 rfl ?_
      refine cn_iconst (pc' := 68) k_c_1 d_Ch_take_67 rfl ?_
      refine cn_iadd_n (pc' := 69) d_Ch_take_68 rfl ?_
      refine cn_putI (pc' := 72) fl_Ch_45 hc0.1 rfl rfl rfl rfl d_Ch_take_69 rfl ?_
      refine cn_aload_n (pc' := 73) (k := 0) rfl rfl d_Ch_take_72 rfl ?_
      refine cn_iload_n (pc' := 74) (k := 1) rfl rfl d_Ch_take_73 rfl ?_
      refine cn_if_ne_n (tgt := 81) (pc' := 77) (by omega) d_Ch_take_74 (by decide) rfl (fun hc74 => ?_) (fun hc74 => ?_)
      · refine cn_iconst (pc' := 82) k_c_0 d_Ch_take_81 rfl ?_
        refine cn_putI (pc' := 85) fl_Ch_25 hc0.1 rfl rfl rfl rfl d_Ch_take_82 rfl ?_
        refine cn_vret rfl d_Ch_take_85 ?_
        have e : sp_take c kd seq req x cnt = (c.1, true, seq, none, lbs x cnt) := by unfold sp_take; rw [if_neg hc12, hq]; dsimp only; rw [if_neg hc74]
        rw [e] at K
        have hrow : I2 h = _ := hf2 h (by omega) (by omega)
        have hrow1 : I1 h = _ := hf1 h (by omega) (by omega)
        refine K _ ⟨by simp [cn_wi, upd, hrow, hrow1, hs.1], by simp [cn_wi, upd, hrow, hrow1], by simp [cn_wi, upd, hrow, hrow1], by simp [cn_wi, upd], fun q9 hq9 => (by cases hq9), ys_cong1 (ys_cong1 hy2 (by omega) (by omega)) (by omega) (by omega), ?_⟩ ?_
        · show (lbs x cnt).length ≤ 64; rw [lbs_len]; omega
        · intro a h1 h2 h3
          rw [cn_wi_ne h1, cn_wi_ne h1, hf2 a h2 h3, cn_wi_ne h1, cn_wi_ne h1, hf1 a h2 h3, cn_wi_ne h1, cn_wi_ne h1]
      · refine cn_iconst (pc' := 78) k_c_1 d_Ch_take_77 rfl ?_
        refine cn_goto (tgt := 82) d_Ch_take_78 (by decide) ?_
        refine cn_putI (pc' := 85) fl_Ch_25 hc0.1 rfl rfl rfl rfl d_Ch_take_82 rfl ?_
        refine cn_vret rfl d_Ch_take_85 ?_
        have e : sp_take c kd seq req x cnt = (c.1, true, seq, some (req, 1), lbs x cnt) := by unfold sp_take; rw [if_neg hc12, hq]; dsimp only; rw [if_pos hc74]
        rw [e] at K
        have hrow : I2 h = _ := hf2 h (by omega) (by omega)
        have hrow1 : I1 h = _ := hf1 h (by omega) (by omega)
        refine K _ ⟨by simp [cn_wi, upd, hrow, hrow1, hs.1], by simp [cn_wi, upd, hrow, hrow1], by simp [cn_wi, upd, hrow, hrow1], by simp [cn_wi, upd], fun q9 hq9 => (by cases hq9; exact ⟨by simp [cn_wi, upd, hrow, hrow1], by simp [cn_wi, upd], by show 1 ≤ 12; omega⟩), ys_cong1 (ys_cong1 hy2 (by omega) (by omega)) (by omega) (by omega), ?_⟩ ?_
        · show (lbs x cnt).length ≤ 64; rw [lbs_len]; omega
        · intro a h1 h2 h3
          rw [cn_wi_ne h1, cn_wi_ne h1, hf2 a h2 h3, cn_wi_ne h1, cn_wi_ne h1, hf1 a h2 h3, cn_wi_ne h1, cn_wi_ne h1]
  · have hx12 : kd = 2 := by omega
    refine cn_aload_n (pc' := 16) (k := 0) rfl rfl d_Ch_take_15 rfl ?_
    refine cn_iconst (pc' := 17) k_c_0 d_Ch_take_16 rfl ?_
    refine cn_putI (pc' := 20) fl_Ch_25 hc0.1 rfl rfl rfl rfl d_Ch_take_17 rfl ?_
    refine cn_vret rfl d_Ch_take_20 ?_
    have e : sp_take c kd seq req x cnt = (c.1, true, seq, none, c.2.2.2.2) := by unfold sp_take; rw [if_pos hx12]
    rw [e] at K
    refine K _ ⟨by simp [cn_wi, upd, hs.1], by simp [cn_wi, upd], by simp [cn_wi, upd], by simp [cn_wi, upd], fun q hq => (by cases hq), ?_, hml⟩ (fun a h1 _ _ => by simp [cn_wi, h1])
    exact ys_cong1 (ys_cong1 (ys_cong1 hs.2.2.2.2.2.1 (by omega) (by omega)) (by omega) (by omega)) (by omega) (by omega)
end
/-- the value with which a variable of a type begins -/
def sv0 (t : Int32) : List Int32 := if t = nI 1 then [nI 1, 0] else if t = nI 6 then nI 6 :: lbs 0 4 else if t = nI 8 then nI 8 :: lbs 0 8 else if t = nI 12 then nI 12 :: lbs (-1) 4 else [t &&& 255]
def yn (S : cn_S) (P : cn_P) (a : Nat) : Prop := cn_ob S a 4 ∧ P a 2 = some (a + 1) ∧ yb S P (a + 1) 61
section
variable {l : Launch} {en : cn_E} {d : Nat} {S : cn_S} {I : cn_I} {P : cn_P} {Q : Option Value → cn_S → cn_I → cn_P → Prop}
variable {a : Nat}
theorem c_No_become_f {par : Int32} (hn : yn S P a) (K : Q none S (cn_wi (cn_wi I a 0 par) a 1 (-1)) P) : cn_V l en mi_No_become d 0 0 S I P Q 0 [(0, .ref a), (1, .int par), (2, .int (-1))] [] := by
  refine cn_aload_n (pc' := 1) (k := 0) rfl rfl d_No_become_0 rfl ?_
  refine cn_iload_n (pc' := 2) (k := 1) rfl rfl d_No_become_1 rfl ?_
  refine cn_putI (pc' := 5) fl_No_20 hn.1 rfl rfl rfl rfl d_No_become_2 rfl ?_
  refine cn_aload_n (pc' := 6) (k := 0) rfl rfl d_No_become_5 rfl ?_
  refine cn_iload_n (pc' := 7) (k := 2) rfl rfl d_No_become_6 rfl ?_
  refine cn_putI (pc' := 10) fl_No_24 hn.1 rfl rfl rfl rfl d_No_become_7 rfl ?_
  refine cn_iload_n (pc' := 11) (k := 2) rfl rfl d_No_become_10 rfl ?_
  refine cn_iconst (pc' := 12) k_c_m1 d_No_become_11 rfl ?_
  refine cn_icmp_ne (tgt := 16) (pc' := 15) d_No_become_12 (by decide) rfl (fun hc12 => ?_) (fun hc12 => ?_)
  · exact absurd rfl hc12
  · refine cn_vret rfl d_No_become_15 ?_
    exact K
theorem c_No_become_v {par t : Int32} (hn : yn S P a) (ht : t = nI 0 ∨ t = nI 1 ∨ t = nI 6 ∨ t = nI 8 ∨ t = nI 12) (hy : ys I (a + 1) []) (hd1 : 2 ≤ d) (K : ∀ I', ys I' (a + 1) (sv0 t) → I' a 0 = par → I' a 1 = t → (∀ b, b ≠ a → b ≠ a + 1 → b ≠ a + 2 → I' b = I b) → Q none S I' P) : cn_V l en mi_No_become d 0 0 S I P Q 0 [(0, .ref a), (1, .int par), (2, .int t)] [] := by
  refine cn_aload_n (pc' := 1) (k := 0) rfl rfl d_No_become_0 rfl ?_
  refine cn_iload_n (pc' := 2) (k := 1) rfl rfl d_No_become_1 rfl ?_
  refine cn_putI (pc' := 5) fl_No_20 hn.1 rfl rfl rfl rfl d_No_become_2 rfl ?_
  refine cn_aload_n (pc' := 6) (k := 0) rfl rfl d_No_become_5 rfl ?_
  refine cn_iload_n (pc' := 7) (k := 2) rfl rfl d_No_become_6 rfl ?_
  refine cn_putI (pc' := 10) fl_No_24 hn.1 rfl rfl rfl rfl d_No_become_7 rfl ?_
  refine cn_iload_n (pc' := 11) (k := 2) rfl rfl d_No_become_10 rfl ?_
  refine cn_iconst (pc' := 12) k_c_m1 d_No_become_11 rfl ?_
  refine cn_icmp_ne (tgt := 16) (pc' := 15) d_No_become_12 (by decide) rfl (fun hc12 => ?_) (fun hc12 => ?_)
  · refine cn_aload_n (pc' := 17) (k := 0) rfl rfl d_No_become_16 rfl ?_
    refine cn_getP (pc' := 20) (b := (a + 1)) hn.2.1 fl_No_14 hn.1 rfl d_No_become_17 rfl ?_
    refine cn_iload_n (pc' := 21) (k := 2) rfl rfl d_No_become_20 rfl ?_
    refine cn_callV (pc' := 24) (kc1 := 0) (ks1 := 0) (kc2 := 0) (ks2 := 0) (rest := []) (lvj := [(0, .ref ((a + 1))), (1, .int (t))]) [.int (t)] mv_No_27 hn.2.2.1 rfl rfl rfl (Nat.le_of_ble_eq_true rfl) (Nat.le_of_ble_eq_true rfl) (by omega) (by omega) (by omega) d_No_become_21 rfl ?_
    refine c_By_add (b := a + 1) (cap := 61) hn.2.2 (ys_cong1 (ys_cong1 hy (by omega) (by omega)) (by omega) (by omega)) (by decide) (fun I1 hy1 hf1 => ?_)
    have hy1 : ys I1 (a + 1) [t &&& 255] := hy1
    show cn_V l en mi_No_become d 0 0 S I1 P Q 24 [(0, .ref a), (1, .int (par)), (2, .int (t))] []
    refine cn_iload_n (pc' := 25) (k := 2) rfl rfl d_No_become_24 rfl ?_
    refine cn_iconst (pc' := 26) k_c_1 d_No_become_25 rfl ?_
    refine cn_icmp_ne (tgt := 40) (pc' := 29) d_No_become_26 (by decide) rfl (fun hc26 => ?_) (fun hc26 => ?_)
    · refine cn_iload_n (pc' := 41) (k := 2) rfl rfl d_No_become_40 rfl ?_
      refine cn_bipush (pc' := 43) k_b_6 d_No_become_41 rfl ?_
      refine cn_icmp_ne (tgt := 58) (pc' := 46) d_No_become_43 (by decide) rfl (fun hc43 => ?_) (fun hc43 => ?_)
      · refine cn_iload_n (pc' := 59) (k := 2) rfl rfl d_No_become_58 rfl ?_
        refine cn_bipush (pc' := 61) k_b_8 d_No_become_59 rfl ?_
        refine cn_icmp_ne (tgt := 77) (pc' := 64) d_No_become_61 (by decide) rfl (fun hc61 => ?_) (fun hc61 => ?_)
        · refine cn_iload_n (pc' := 78) (k := 2) rfl rfl d_No_become_77 rfl ?_
          refine cn_bipush (pc' := 80) k_b_12 d_No_become_78 rfl ?_
          refine cn_icmp_ne (tgt := 94) (pc' := 83) d_No_become_80 (by decide) rfl (fun hc80 => ?_) (fun hc80 => ?_)
          · refine cn_vret rfl d_No_become_94 ?_
            refine K _ ?_ (by rw [hf1 a (by omega) (by omega)]; simp [cn_wi, upd]) (by rw [hf1 a (by omega) (by omega)]; simp [cn_wi, upd]) (fun b h1 h2 h3 => by rw [hf1 b h2 (by omega), cn_wi_ne h1, cn_wi_ne h1])
            have e : sv0 t = [t &&& 255] := by unfold sv0; rw [if_neg hc26, if_neg hc43, if_neg hc61, if_neg hc80]
            rw [e]; exact hy1
          · refine cn_aload_n (pc' := 84) (k := 0) rfl rfl d_No_become_83 rfl ?_
            refine cn_getP (pc' := 87) (b := (a + 1)) hn.2.1 fl_No_14 hn.1 rfl d_No_become_84 rfl ?_
            refine cn_ldc2 (pc' := 90) w_k_No_34 d_No_become_87 rfl ?_
            refine cn_iconst (pc' := 91) k_c_4 d_No_become_90 rfl ?_
            refine cn_callV (pc' := 94) (kc1 := 0) (ks1 := 0) (kc2 := 0) (ks2 := 0) (rest := []) (lvj := [(0, .ref ((a + 1))), (1, .long (-1)), (3, .int (nI (4)))]) [.long (-1), .int (nI (4))] mv_No_30 hn.2.2.1 rfl rfl rfl (Nat.le_of_ble_eq_true rfl) (Nat.le_of_ble_eq_true rfl) (by omega) (by omega) (by omega) d_No_become_91 rfl ?_
            refine c_By_addNumber (b := a + 1) (cap := 61) hn.2.2 hy1 (show 1 ≤ 61 by decide) (by omega) (by omega) (fun I2 hy2 hf2 => ?_)
            show cn_V l en mi_No_become d 0 0 S I2 P Q 94 [(0, .ref a), (1, .int (par)), (2, .int (t))] []
            refine cn_vret rfl d_No_become_94 ?_
            have htk : t = nI 12 := by first | exact hc80 | exact (not_not.mp hc80)
            refine K _ ?_ (by rw [hf2 a (by omega) (by omega), hf1 a (by omega) (by omega)]; simp [cn_wi, upd]) (by rw [hf2 a (by omega) (by omega), hf1 a (by omega) (by omega)]; simp [cn_wi, upd]) (fun b h1 h2 h3 => by rw [hf2 b h2 (by omega), hf1 b h2 (by omega), cn_wi_ne h1, cn_wi_ne h1])
            subst htk
            exact hy2
        · refine cn_aload_n (pc' := 65) (k := 0) rfl rfl d_No_become_64 rfl ?_
          refine cn_getP (pc' := 68) (b := (a + 1)) hn.2.1 fl_No_14 hn.1 rfl d_No_become_65 rfl ?_
          refine cn_lconst (pc' := 69) (v := 0) (by decide +kernel) d_No_become_68 rfl ?_
          refine cn_bipush (pc' := 71) k_b_8 d_No_become_69 rfl ?_
          refine cn_callV (pc' := 74) (kc1 := 0) (ks1 := 0) (kc2 := 0) (ks2 := 0) (rest := []) (lvj := [(0, .ref ((a + 1))), (1, .long (0)), (3, .int (nI (8)))]) [.long (0), .int (nI (8))] mv_No_30 hn.2.2.1 rfl rfl rfl (Nat.le_of_ble_eq_true rfl) (Nat.le_of_ble_eq_true rfl) (by omega) (by omega) (by omega) d_No_become_71 rfl ?_
          refine c_By_addNumber (b := a + 1) (cap := 61) hn.2.2 hy1 (show 1 ≤ 61 by decide) (by omega) (by omega) (fun I2 hy2 hf2 => ?_)
          show cn_V l en mi_No_become d 0 0 S I2 P Q 74 [(0, .ref a), (1, .int (par)), (2, .int (t))] []
          refine cn_goto (tgt := 94) d_No_become_74 (by decide) ?_
          refine cn_vret rfl d_No_become_94 ?_
          have htk : t = nI 8 := by first | exact hc61 | exact (not_not.mp hc61)
          refine K _ ?_ (by rw [hf2 a (by omega) (by omega), hf1 a (by omega) (by omega)]; simp [cn_wi, upd]) (by rw [hf2 a (by omega) (by omega), hf1 a (by omega) (by omega)]; simp [cn_wi, upd]) (fun b h1 h2 h3 => by rw [hf2 b h2 (by omega), hf1 b h2 (by omega), cn_wi_ne h1, cn_wi_ne h1])
          subst htk
          exact hy2
      · refine cn_aload_n (pc' := 47) (k := 0) rfl rfl d_No_become_46 rfl ?_
        refine cn_getP (pc' := 50) (b := (a + 1)) hn.2.1 fl_No_14 hn.1 rfl d_No_become_47 rfl ?_
        refine cn_lconst (pc' := 51) (v := 0) (by decide +kernel) d_No_become_50 rfl ?_
        refine cn_iconst (pc' := 52) k_c_4 d_No_become_51 rfl ?_
        refine cn_callV (pc' := 55) (kc1 := 0) (ks1 := 0) (kc2 := 0) (ks2 := 0) (rest := []) (lvj := [(0, .ref ((a + 1))), (1, .long (0)), (3, .int (nI (4)))]) [.long (0), .int (nI (4))] mv_No_30 hn.2.2.1 rfl rfl rfl (Nat.le_of_ble_eq_true rfl) (Nat.le_of_ble_eq_true rfl) (by omega) (by omega) (by omega) d_No_become_52 rfl ?_
        refine c_By_addNumber (b := a + 1) (cap := 61) hn.2.2 hy1 (show 1 ≤ 61 by decide) (by omega) (by omega) (fun I2 hy2 hf2 => ?_)
        show cn_V l en mi_No_become d 0 0 S I2 P Q 55 [(0, .ref a), (1, .int (par)), (2, .int (t))] []
        refine cn_goto (tgt := 94) d_No_become_55 (by decide) ?_
        refine cn_vret rfl d_No_become_94 ?_
        have htk : t = nI 6 := by first | exact hc43 | exact (not_not.mp hc43)
        refine K _ ?_ (by rw [hf2 a (by omega) (by omega), hf1 a (by omega) (by omega)]; simp [cn_wi, upd]) (by rw [hf2 a (by omega) (by omega), hf1 a (by omega) (by omega)]; simp [cn_wi, upd]) (fun b h1 h2 h3 => by rw [hf2 b h2 (by omega), hf1 b h2 (by omega), cn_wi_ne h1, cn_wi_ne h1])
        subst htk
        exact hy2
    · refine cn_aload_n (pc' := 30) (k := 0) rfl rfl d_No_become_29 rfl ?_
      refine cn_getP (pc' := 33) (b := (a + 1)) hn.2.1 fl_No_14 hn.1 rfl d_No_become_30 rfl ?_
      refine cn_iconst (pc' := 34) k_c_0 d_No_become_33 rfl ?_
      refine cn_callV (pc' := 37) (kc1 := 0) (ks1 := 0) (kc2 := 0) (ks2 := 0) (rest := []) (lvj := [(0, .ref ((a + 1))), (1, .int (nI (0)))]) [.int (nI (0))] mv_No_27 hn.2.2.1 rfl rfl rfl (Nat.le_of_ble_eq_true rfl) (Nat.le_of_ble_eq_true rfl) (by omega) (by omega) (by omega) d_No_become_34 rfl ?_
      refine c_By_add (b := a + 1) (cap := 61) hn.2.2 hy1 (show 1 ≤ 61 by decide) (fun I2 hy2 hf2 => ?_)
      show cn_V l en mi_No_become d 0 0 S I2 P Q 37 [(0, .ref a), (1, .int (par)), (2, .int (t))] []
      refine cn_goto (tgt := 94) d_No_become_37 (by decide) ?_
      refine cn_vret rfl d_No_become_94 ?_
      have htk : t = nI 1 := by first | exact hc26 | exact (not_not.mp hc26)
      refine K _ ?_ (by rw [hf2 a (by omega) (by omega), hf1 a (by omega) (by omega)]; simp [cn_wi, upd]) (by rw [hf2 a (by omega) (by omega), hf1 a (by omega) (by omega)]; simp [cn_wi, upd]) (fun b h1 h2 h3 => by rw [hf2 b h2 (by omega), hf1 b h2 (by omega), cn_wi_ne h1, cn_wi_ne h1])
      subst htk
      exact hy2
  · exact absurd hc12 (by rcases ht with h | h | h | h | h <;> rw [h] <;> decide)
end
end
section
/-- the row k goes behind the others up to w -/
def rot {α : Type} (f : Nat → α) (k w : Nat) : Nat → α := fun j => if k ≤ j ∧ j + 1 < w then f (j + 1) else if j + 1 = w then f k else f j
def shf {α : Type} (f : Nat → α) (k i : Nat) : Nat → α := fun j => if k ≤ j ∧ j + 1 < i then f (j + 1) else f j
theorem shf_start (P : cn_P) (r k : Nat) : P = cn_wq P r (shf (P r) k (k + 1)) := by
  funext a j
  by_cases ha : a = r
  · subst ha
    rw [cn_wq_row]
    unfold shf
    rw [if_neg (by omega)]
  · rw [cn_wq_ne ha]
theorem shf_step (P : cn_P) (r k i : Nat) (hk : k < i) : cn_wp (cn_wq P r (shf (P r) k i)) r (i - 1) (P r i) = cn_wq P r (shf (P r) k (i + 1)) := by
  funext a
  by_cases ha : a = r
  · subst ha
    rw [cn_wp_row, cn_wq_row, cn_wq_row]
    funext j
    unfold va_up shf
    by_cases hj : j = i - 1
    · subst hj
      rw [if_pos rfl, if_pos (by omega)]
      congr 1; omega
    · rw [if_neg hj]
      by_cases h : k ≤ j ∧ j + 1 < i
      · rw [if_pos h, if_pos (by omega)]
      · rw [if_neg h, if_neg (by omega)]
  · rw [cn_wp_ne ha, cn_wq_ne ha, cn_wq_ne ha]
theorem shf_end (P : cn_P) (r k w : Nat) (hk : k < w) : cn_wp (cn_wq P r (shf (P r) k w)) r (w - 1) (P r k) = cn_wq P r (rot (P r) k w) := by
  funext a
  by_cases ha : a = r
  · subst ha
    rw [cn_wp_row, cn_wq_row, cn_wq_row]
    funext j
    unfold va_up shf rot
    by_cases hj : j = w - 1
    · subst hj
      rw [if_pos rfl, if_neg (by omega), if_pos (by omega)]
    · rw [if_neg hj]
      by_cases h : k ≤ j ∧ j + 1 < w
      · rw [if_pos h, if_pos h]
      · rw [if_neg h, if_neg h, if_neg (by omega)]
  · rw [cn_wp_ne ha, cn_wq_ne ha, cn_wq_ne ha]
def ypm (P : cn_P) (r base n : Nat) (π : Nat → Nat) : Prop := (∀ j, j < n → π j < n) ∧ (∀ i j, i < n → j < n → π i = π j → i = j) ∧ ∀ j, j < n → P r j = some (base + 3 * π j)
theorem rot_lt {k w j n : Nat} (hk : k < w) (hw : w ≤ n) (hj : j < n) : ∃ i, i < n ∧ (∀ {α : Type} (f : Nat → α), rot f k w j = f i) ∧ ((k ≤ j ∧ j + 1 < w ∧ i = j + 1) ∨ (j + 1 = w ∧ i = k) ∨ (¬ (k ≤ j ∧ j + 1 < w) ∧ ¬ j + 1 = w ∧ i = j)) := by
  by_cases h : k ≤ j ∧ j + 1 < w
  · exact ⟨j + 1, by omega, fun f => if_pos h, Or.inl ⟨h.1, h.2, rfl⟩⟩
  · by_cases h2 : j + 1 = w
    · exact ⟨k, by omega, fun f => by unfold rot; rw [if_neg h, if_pos h2], Or.inr (Or.inl ⟨h2, rfl⟩)⟩
    · exact ⟨j, hj, fun f => by unfold rot; rw [if_neg h, if_neg h2], Or.inr (Or.inr ⟨h, h2, rfl⟩)⟩
theorem ypm_rot {P : cn_P} {r base n k w : Nat} {π : Nat → Nat} (h : ypm P r base n π) (hk : k < w) (hw : w ≤ n) : ypm (cn_wq P r (rot (P r) k w)) r base n (rot π k w) := by
  refine ⟨fun j hj => ?_, fun i j hi hj e => ?_, fun j hj => ?_⟩
  · obtain ⟨i, hi, e, -⟩ := rot_lt hk hw hj
    rw [e π]
    exact h.1 i hi
  · obtain ⟨a, ha, e1, c1⟩ := rot_lt hk hw hi
    obtain ⟨b, hb, e2, c2⟩ := rot_lt hk hw hj
    rw [e1 π, e2 π] at e
    have hab := h.2.1 a b ha hb e
    omega
  · obtain ⟨i, hi, e, -⟩ := rot_lt hk hw hj
    rw [cn_wq_row, e (P r), e π]
    exact h.2.2 i hi
abbrev sNt : Type := List Int32 × Int32
def ntd : sNt := ([], 0)
def yi (S : cn_S) (P : cn_P) (it : Nat) : Prop := cn_ob S it 2 ∧ P it 0 = some (it + 1) ∧ cn_ar S (it + 1) 5 4 ∧ ∀ q, q < 4 → cn_ob S (it + 2 + 3 * q) 5 ∧ P (it + 2 + 3 * q) 0 = some (it + 3 + 3 * q) ∧ yb S P (it + 3 + 3 * q) 61
theorem yi.keepP {S : cn_S} {P P' : cn_P} {it : Nat} (h : yi S P it) (hf : ∀ a, a ≠ it + 1 → P' a = P a) : yi S P' it := by
  refine ⟨h.1, by rw [hf it (by omega)]; exact h.2.1, h.2.2.1, fun q hq => ?_⟩
  obtain ⟨a1, a2, a3⟩ := h.2.2.2 q hq
  exact ⟨a1, by rw [hf _ (by omega)]; exact a2, a3.1, by rw [hf _ (by omega)]; exact a3.2.1, a3.2.2⟩
def yq (I : cn_I) (P : cn_P) (it : Nat) (q : List sNt) (π : Nat → Nat) : Prop := I it 4 = nI q.length ∧ q.length ≤ 4 ∧ ypm P (it + 1) (it + 2) 4 π ∧ ∀ j, j < q.length → ys I (it + 3 + 3 * π j) (q.getD j ntd).1 ∧ (q.getD j ntd).1.length ≤ 61 ∧ I (it + 2 + 3 * π j) 1 = (q.getD j ntd).2
theorem nt_l {v w : List sNt} {j : Nat} (h : j < v.length) : (v ++ w).getD j ntd = v.getD j ntd := by
  rw [List.getD_eq_getElem?_getD, List.getD_eq_getElem?_getD, List.getElem?_append_left h]
theorem nt_tail (q : List sNt) (j : Nat) : q.tail.getD j ntd = q.getD (j + 1) ntd := by
  rw [List.getD_eq_getElem?_getD, List.getD_eq_getElem?_getD, List.getElem?_tail]
theorem nt_drop {q : List sNt} {j : Nat} (h : j < q.length - 1) : q.dropLast.getD j ntd = q.getD j ntd := by
  rw [List.getD_eq_getElem?_getD, List.getD_eq_getElem?_getD, List.getElem?_dropLast, if_pos h]
theorem yq_tail {I : cn_I} {P : cn_P} {it : Nat} {q : List sNt} {π : Nat → Nat} (h : yq I P it q π) (h0 : 0 < q.length) : yq (cn_wi I it 4 (nI (q.length - 1))) (cn_wq P (it + 1) (rot (P (it + 1)) 0 q.length)) it q.tail (rot π 0 q.length) := by
  have hl := h.2.1
  refine ⟨by rw [List.length_tail]; simp [cn_wi, upd], by rw [List.length_tail]; omega, ypm_rot h.2.2.1 h0 hl, fun j hj => ?_⟩
  rw [List.length_tail] at hj
  have e : rot π 0 q.length j = π (j + 1) := if_pos (by omega)
  obtain ⟨a1, a2, a3⟩ := h.2.2.2 (j + 1) (by omega)
  rw [e, nt_tail]
  exact ⟨a1.congr (cn_wi_ne (by omega)) (cn_wi_ne (by omega)), a2, by rw [cn_wi_ne (by omega)]; exact a3⟩
theorem yq_drop {I : cn_I} {P : cn_P} {it : Nat} {q : List sNt} {π : Nat → Nat} (h : yq I P it q π) : yq (cn_wi I it 4 (nI (q.length - 1))) P it q.dropLast π := by
  have hl := h.2.1
  refine ⟨by rw [List.length_dropLast]; simp [cn_wi, upd], by rw [List.length_dropLast]; omega, h.2.2.1, fun j hj => ?_⟩
  rw [List.length_dropLast] at hj
  obtain ⟨a1, a2, a3⟩ := h.2.2.2 j (by omega)
  rw [nt_drop hj]
  exact ⟨a1.congr (cn_wi_ne (by omega)) (cn_wi_ne (by omega)), a2, by rw [cn_wi_ne (by omega)]; exact a3⟩
/-- a notice more: it stands where the next row is -/
theorem yq_push {I I' : cn_I} {P : cn_P} {it : Nat} {q : List sNt} {π : Nat → Nat} {v : List Int32} {mk : Int32} (h : yq I P it q π) (h4 : q.length < 4) (hn : I' it 4 = nI (q.length + 1)) (hy : ys I' (it + 3 + 3 * π q.length) v) (hv : v.length ≤ 61) (hm : I' (it + 2 + 3 * π q.length) 1 = mk) (hf : ∀ a, a ≠ it → a ≠ it + 2 + 3 * π q.length → a ≠ it + 3 + 3 * π q.length → a ≠ it + 4 + 3 * π q.length → I' a = I a) : yq I' P it (q ++ [(v, mk)]) π := by
  refine ⟨by rw [List.length_append]; exact hn, by rw [List.length_append]; exact h4, h.2.2.1, fun j hj => ?_⟩
  rw [List.length_append] at hj
  have hj : j < q.length + 1 := hj
  by_cases e : j = q.length
  · subst e
    have e1 : (q ++ [(v, mk)]).getD q.length ntd = (v, mk) := by
      rw [List.getD_eq_getElem?_getD, List.getElem?_append_right (Nat.le_refl _), Nat.sub_self]; rfl
    rw [e1]
    exact ⟨hy, hv, hm⟩
  · have hlt : j < q.length := by omega
    rw [nt_l hlt]
    obtain ⟨a1, a2, a3⟩ := h.2.2.2 j hlt
    have hne : π j ≠ π q.length := fun z => e (h.2.2.1.2.1 j q.length (by omega) h4 z)
    exact ⟨a1.congr (hf _ (by omega) (by omega) (by omega) (by omega)) (hf _ (by omega) (by omega) (by omega) (by omega)), a2, by rw [hf _ (by omega) (by omega) (by omega) (by omega)]; exact a3⟩
def mk1 (q : List sNt) : List sNt := match q with
  | [] => []
  | a :: t => (a.1, nI 1) :: t
/-- a queue behind a new value: cap, whether the oldest go -/
def nq (cap : Nat) (old : Bool) (q : List sNt) (v : List Int32) : List sNt :=
  if q.length = cap then
    (if old = true then (if 1 < cap then mk1 (q.tail ++ [(v, nI 0)]) else q.tail ++ [(v, nI 0)])
     else (if 1 < cap then q.dropLast ++ [(v, nI 1)] else q.dropLast ++ [(v, nI 0)]))
  else q ++ [(v, nI 0)]
theorem nq_len {cap : Nat} {old : Bool} {q : List sNt} {v : List Int32} (h : q.length ≤ cap) (h1 : 1 ≤ cap) : (nq cap old q v).length ≤ cap := by
  unfold nq
  by_cases e : q.length = cap
  · rw [if_pos e]
    cases old
    · rw [if_neg (by decide)]
      split <;> simp <;> omega
    · rw [if_pos rfl]
      have hl : (q.tail ++ [(v, nI 0)]).length = cap := by simp; omega
      split
      · unfold mk1
        split
        · exact Nat.zero_le _
        · rename_i a t hq
          rw [hq] at hl
          simpa using Nat.le_of_eq hl
      · omega
  · rw [if_neg e]
    simp
    omega
theorem yq_mk1 {I : cn_I} {P : cn_P} {it : Nat} {q : List sNt} {π : Nat → Nat} (h : yq I P it q π) (h0 : 0 < q.length) : yq (cn_wi I (it + 2 + 3 * π 0) 1 (nI 1)) P it (mk1 q) π := by
  cases q with
  | nil => exact absurd h0 (Nat.lt_irrefl 0)
  | cons a t =>
    refine ⟨by rw [cn_wi_ne (by omega)]; exact h.1, h.2.1, h.2.2.1, fun j hj => ?_⟩
    have hj : j < t.length + 1 := hj
    obtain ⟨a1, a2, a3⟩ := h.2.2.2 j hj
    have hl := h.2.1
    have hl : t.length + 1 ≤ 4 := hl
    refine ⟨?_, ?_, ?_⟩
    · have e : ((mk1 (a :: t)).getD j ntd).1 = ((a :: t).getD j ntd).1 := by cases j <;> rfl
      rw [e]
      exact a1.congr (cn_wi_ne (by omega)) (cn_wi_ne (by omega))
    · have e : ((mk1 (a :: t)).getD j ntd).1 = ((a :: t).getD j ntd).1 := by cases j <;> rfl
      rw [e]
      exact a2
    · cases j with
      | zero => simp [cn_wi, upd, mk1]
      | succ j =>
        have hne : π (j + 1) ≠ π 0 := fun z => absurd (h.2.2.1.2.1 (j + 1) 0 (by omega) (by omega) z) (by omega)
        rw [cn_wi_ne (by omega), a3]
        rfl
/-- nothing changed but the item's own cells, and of its fields only 'waiting' -/
def fri (I I' : cn_I) (it : Nat) : Prop := (∀ a, a < it ∨ it + 14 ≤ a → I' a = I a) ∧ I' it 1 = I it 1 ∧ I' it 2 = I it 2 ∧ I' it 3 = I it 3
def frP (P P' : cn_P) (r : Nat) : Prop := ∀ a, a ≠ r → P' a = P a
section
variable {l : Launch} {en : cn_E} {d : Nat} {S : cn_S} {I : cn_I} {P : cn_P} {Q : Option Value → cn_S → cn_I → cn_P → Prop}
variable {it : Nat} {q : List sNt} {π : Nat → Nat}
theorem c_It_watch {nd cap : Nat} {old : Bool} (hi : yi S P it) (K : ∀ I', I' it 1 = nI nd → I' it 2 = nI cap → I' it 3 = nI old.toNat → I' it 4 = nI 0 → (∀ a, a ≠ it → I' a = I a) → Q none S I' P) : cn_V l en mi_It_watch d 0 0 S I P Q 0 [(0, .ref it), (1, .int (nI nd)), (2, .int (nI cap)), (3, .int (nI old.toNat))] [] := by
  refine cn_aload_n (pc' := 1) (k := 0) rfl rfl d_It_watch_0 rfl ?_
  refine cn_iload_n (pc' := 2) (k := 1) rfl rfl d_It_watch_1 rfl ?_
  refine cn_putI (pc' := 5) fl_It_22 hi.1 rfl rfl rfl rfl d_It_watch_2 rfl ?_
  refine cn_aload_n (pc' := 6) (k := 0) rfl rfl d_It_watch_5 rfl ?_
  refine cn_iload_n (pc' := 7) (k := 2) rfl rfl d_It_watch_6 rfl ?_
  refine cn_putI (pc' := 10) fl_It_17 hi.1 rfl rfl rfl rfl d_It_watch_7 rfl ?_
  refine cn_aload_n (pc' := 11) (k := 0) rfl rfl d_It_watch_10 rfl ?_
  refine cn_iload_n (pc' := 12) (k := 3) rfl rfl d_It_watch_11 rfl ?_
  refine cn_putI (pc' := 15) fl_It_25 hi.1 rfl rfl (by cases old <;> rfl) (by cases old <;> rfl) d_It_watch_12 rfl ?_
  refine cn_aload_n (pc' := 16) (k := 0) rfl rfl d_It_watch_15 rfl ?_
  refine cn_iconst (pc' := 17) k_c_0 d_It_watch_16 rfl ?_
  refine cn_putI (pc' := 20) fl_It_29 hi.1 rfl rfl rfl rfl d_It_watch_17 rfl ?_
  refine cn_vret rfl d_It_watch_20 ?_
  exact K _ (by simp [cn_wi, upd]) (by simp [cn_wi, upd]) (by simp [cn_wi, upd]) (by simp [cn_wi, upd]) (fun a h => by simp [cn_wi, h])
theorem c_It_removeFirst_loop (hi : yi S P it) (hq : yq I P it q π) (h0 : 0 < q.length) (K : Q (some (.ref (it + 2 + 3 * π 0))) S (cn_wi I it 4 (nI (q.length - 1))) (cn_wq P (it + 1) (rot (P (it + 1)) 0 q.length))) : ∀ (k i : Nat) (P' : cn_P), i + k = q.length → 1 ≤ i → P' = cn_wq P (it + 1) (shf (P (it + 1)) 0 i) → cn_V l en mi_It_removeFirst d 0 0 S I P' Q 9 [(0, .ref it), (1, .ref (it + 2 + 3 * π 0)), (2, .int (nI i))] [] := by
  have hl := hq.2.1
  intro k
  induction k with
  | zero =>
    intro i P' hik hi1 hP'
    have hi' : yi S P' it := hi.keepP (fun a ha => by rw [hP']; exact cn_wq_ne ha)
    have hrow : P' (it + 1) i = P (it + 1) i := by rw [hP', cn_wq_row]; unfold shf; rw [if_neg (by omega)]
    refine cn_iload_n (pc' := 10) (k := 2) rfl rfl d_It_removeFirst_9 rfl ?_
    refine cn_aload_n (pc' := 11) (k := 0) rfl rfl d_It_removeFirst_10 rfl ?_
    refine cn_getIv (pc' := 14) (v := nI (q.length)) hq.1 fl_It_29 hi'.1 rfl d_It_removeFirst_11 rfl ?_
    refine cn_icmp_ge_n (tgt := 37) (pc' := 17) (by omega) (by omega) d_It_removeFirst_14 (by decide) rfl (fun hc14 => ?_) (fun hc14 => ?_)
    · refine cn_aload_n (pc' := 38) (k := 0) rfl rfl d_It_removeFirst_37 rfl ?_
      refine cn_dup (pc' := 39) rfl d_It_removeFirst_38 rfl ?_
      refine cn_getIv (pc' := 42) (v := nI (q.length)) hq.1 fl_It_29 hi'.1 rfl d_It_removeFirst_39 rfl ?_
      refine cn_iconst (pc' := 43) k_c_1 d_It_removeFirst_42 rfl ?_
      refine cn_isub_n (pc' := 44) (by omega) d_It_removeFirst_43 rfl ?_
      refine cn_putI (pc' := 47) fl_It_29 hi'.1 rfl rfl rfl rfl d_It_removeFirst_44 rfl ?_
      refine cn_aload_n (pc' := 48) (k := 0) rfl rfl d_It_removeFirst_47 rfl ?_
      refine cn_getP (pc' := 51) (b := (it + 1)) hi'.2.1 fl_It_11 hi'.1 rfl d_It_removeFirst_48 rfl ?_
      refine cn_aload_n (pc' := 52) (k := 0) rfl rfl d_It_removeFirst_51 rfl ?_
      refine cn_getIv (pc' := 55) (v := nI (q.length - 1)) (by simp [cn_wi, upd]) fl_It_29 hi'.1 rfl d_It_removeFirst_52 rfl ?_
      refine cn_aload_n (pc' := 56) (k := 1) rfl rfl d_It_removeFirst_55 rfl ?_
      refine cn_aast (pc' := 57) hi'.2.2.1 (by decide) (by decide) (hi'.2.2.2 _ (hq.2.2.1.1 _ (by omega))).1 rfl rfl (by omega) (by decide) d_It_removeFirst_56 rfl ?_
      refine cn_aload_n (pc' := 58) (k := 1) rfl rfl d_It_removeFirst_57 rfl ?_
      refine cn_aret rfl d_It_removeFirst_58 ?_
      have e : i = q.length := by omega
      subst e
      rw [hP', ← hq.2.2.1.2.2 0 (by omega), shf_end P (it + 1) 0 q.length h0]
      exact K
    · exact absurd hc14 (by omega)
  | succ k ih =>
    intro i P' hik hi1 hP'
    have hi' : yi S P' it := hi.keepP (fun a ha => by rw [hP']; exact cn_wq_ne ha)
    have hrow : P' (it + 1) i = P (it + 1) i := by rw [hP', cn_wq_row]; unfold shf; rw [if_neg (by omega)]
    refine cn_iload_n (pc' := 10) (k := 2) rfl rfl d_It_removeFirst_9 rfl ?_
    refine cn_aload_n (pc' := 11) (k := 0) rfl rfl d_It_removeFirst_10 rfl ?_
    refine cn_getIv (pc' := 14) (v := nI (q.length)) hq.1 fl_It_29 hi'.1 rfl d_It_removeFirst_11 rfl ?_
    refine cn_icmp_ge_n (tgt := 37) (pc' := 17) (by omega) (by omega) d_It_removeFirst_14 (by decide) rfl (fun hc14 => ?_) (fun hc14 => ?_)
    · exact absurd hc14 (by omega)
    · refine cn_aload_n (pc' := 18) (k := 0) rfl rfl d_It_removeFirst_17 rfl ?_
      refine cn_getP (pc' := 21) (b := (it + 1)) hi'.2.1 fl_It_11 hi'.1 rfl d_It_removeFirst_18 rfl ?_
      refine cn_iload_n (pc' := 22) (k := 2) rfl rfl d_It_removeFirst_21 rfl ?_
      refine cn_iconst (pc' := 23) k_c_1 d_It_removeFirst_22 rfl ?_
      refine cn_isub_n (pc' := 24) (by omega) d_It_removeFirst_23 rfl ?_
      refine cn_aload_n (pc' := 25) (k := 0) rfl rfl d_It_removeFirst_24 rfl ?_
      refine cn_getP (pc' := 28) (b := (it + 1)) hi'.2.1 fl_It_11 hi'.1 rfl d_It_removeFirst_25 rfl ?_
      refine cn_iload_n (pc' := 29) (k := 2) rfl rfl d_It_removeFirst_28 rfl ?_
      refine cn_aald (pc' := 30) (b := (it + 2 + 3 * π i)) hi'.2.2.1 (by decide) (by decide) rfl (by omega) (by decide) (hrow.trans (hq.2.2.1.2.2 i (by omega))) d_It_removeFirst_29 rfl ?_
      refine cn_aast (pc' := 31) hi'.2.2.1 (by decide) (by decide) (hi'.2.2.2 _ (hq.2.2.1.1 _ (by omega))).1 rfl rfl (by omega) (by decide) d_It_removeFirst_30 rfl ?_
      refine cn_iinc_n (pc' := 34) (lv' := [(0, .ref it), (1, .ref ((it + 2 + 3 * π 0))), (2, .int (nI (i + 1)))]) (k := 2) [1, 2, 0] rfl (Nat.le_of_ble_eq_true rfl) rfl d_It_removeFirst_31 rfl ?_
      refine cn_goto (tgt := 9) d_It_removeFirst_34 (by decide) ?_
      refine ih (i + 1) _ (by omega) (by omega) ?_
      rw [hP', ← hq.2.2.1.2.2 i (by omega)]
      exact shf_step P (it + 1) 0 i (by omega)
theorem c_It_removeFirst (hi : yi S P it) (hq : yq I P it q π) (h0 : 0 < q.length) (K : Q (some (.ref (it + 2 + 3 * π 0))) S (cn_wi I it 4 (nI (q.length - 1))) (cn_wq P (it + 1) (rot (P (it + 1)) 0 q.length))) : cn_V l en mi_It_removeFirst d 0 0 S I P Q 0 [(0, .ref it)] [] := by
  have hl := hq.2.1
  refine cn_aload_n (pc' := 1) (k := 0) rfl rfl d_It_removeFirst_0 rfl ?_
  refine cn_getP (pc' := 4) (b := (it + 1)) hi.2.1 fl_It_11 hi.1 rfl d_It_removeFirst_1 rfl ?_
  refine cn_iconst (pc' := 5) k_c_0 d_It_removeFirst_4 rfl ?_
  refine cn_aald (pc' := 6) (b := (it + 2 + 3 * π 0)) hi.2.2.1 (by decide) (by decide) rfl (by omega) (by decide) (hq.2.2.1.2.2 0 (by omega)) d_It_removeFirst_5 rfl ?_
  refine cn_astore_n (pc' := 7) (lv' := [(0, .ref it), (1, .ref ((it + 2 + 3 * π 0)))]) rfl [1, 0] (Nat.le_of_ble_eq_true rfl) rfl d_It_removeFirst_6 rfl ?_
  refine cn_iconst (pc' := 8) k_c_1 d_It_removeFirst_7 rfl ?_
  refine cn_istore_n (pc' := 9) (lv' := [(0, .ref it), (1, .ref ((it + 2 + 3 * π 0))), (2, .int (nI (1)))]) rfl [1, 2, 0] (Nat.le_of_ble_eq_true rfl) rfl d_It_removeFirst_8 rfl ?_
  exact c_It_removeFirst_loop hi hq h0 K (q.length - 1) 1 P (by omega) (by omega) (shf_start P (it + 1) 0)
theorem c_It_discard {old : Bool} (hi : yi S P it) (hq : yq I P it q π) (h0 : 0 < q.length) (ho : I it 3 = nI old.toNat) (hd1 : 1 ≤ d) (K : ∀ (I' : cn_I) (P' : cn_P) (π' : Nat → Nat), yq I' P' it (if old = true then q.tail else q.dropLast) π' → fri I I' it → frP P P' (it + 1) → Q none S I' P') : cn_V l en mi_It_discard d 0 0 S I P Q 0 [(0, .ref it)] [] := by
  have hl := hq.2.1
  have hob := tn_le old
  refine cn_aload_n (pc' := 1) (k := 0) rfl rfl d_It_discard_0 rfl ?_
  refine cn_getIv (pc' := 4) (v := nI (old.toNat)) ho fl_It_25 hi.1 rfl d_It_discard_1 rfl ?_
  refine cn_if_eq_n (tgt := 15) (pc' := 7) (by omega) d_It_discard_4 (by decide) rfl (fun hc4 => ?_) (fun hc4 => ?_)
  · refine cn_aload_n (pc' := 16) (k := 0) rfl rfl d_It_discard_15 rfl ?_
    refine cn_dup (pc' := 17) rfl d_It_discard_16 rfl ?_
    refine cn_getIv (pc' := 20) (v := nI (q.length)) hq.1 fl_It_29 hi.1 rfl d_It_discard_17 rfl ?_
    refine cn_iconst (pc' := 21) k_c_1 d_It_discard_20 rfl ?_
    refine cn_isub_n (pc' := 22) (by omega) d_It_discard_21 rfl ?_
    refine cn_putI (pc' := 25) fl_It_29 hi.1 rfl rfl rfl rfl d_It_discard_22 rfl ?_
    refine cn_vret rfl d_It_discard_25 ?_
    have e : ¬ old = true := by rw [tn_0 hc4]; decide
    exact K _ _ _ (by rw [if_neg e]; exact yq_drop hq) ⟨fun a h => cn_wi_ne (by omega), by simp [cn_wi, upd], by simp [cn_wi, upd], by simp [cn_wi, upd]⟩ (fun a ha => rfl)
  · refine cn_aload_n (pc' := 8) (k := 0) rfl rfl d_It_discard_7 rfl ?_
    refine cn_callV (pc' := 11) (kc1 := 0) (ks1 := 0) (kc2 := 0) (ks2 := 0) (rest := []) (lvj := [(0, .ref it)]) [] mv_It_51 hi.1 rfl rfl rfl (Nat.le_of_ble_eq_true rfl) (Nat.le_of_ble_eq_true rfl) (by omega) (by omega) (by omega) d_It_discard_8 rfl ?_
    refine c_It_removeFirst hi hq h0 ?_
    show cn_V l en mi_It_discard d 0 0 S ((cn_wi I it 4 (nI (q.length - 1)))) ((cn_wq P (it + 1) (rot (P (it + 1)) 0 q.length))) Q 11 [(0, .ref it)] [.ref ((it + 2 + 3 * π 0))]
    refine cn_pop (pc' := 12) rfl d_It_discard_11 rfl ?_
    refine cn_goto (tgt := 25) d_It_discard_12 (by decide) ?_
    refine cn_vret rfl d_It_discard_25 ?_
    have e : old = true := tn_1 hc4
    exact K _ _ _ (by rw [if_pos e]; exact yq_tail hq h0) ⟨fun a h => cn_wi_ne (by omega), by simp [cn_wi, upd], by simp [cn_wi, upd], by simp [cn_wi, upd]⟩ (fun a ha => cn_wq_ne ha)
end
end
section
section
variable {l : Launch} {en : cn_E} {d : Nat} {S : cn_S} {I : cn_I} {P : cn_P} {Q : Option Value → cn_S → cn_I → cn_P → Prop}
variable {it : Nat} {q : List sNt} {π : Nat → Nat}
theorem c_It_addNotice_2 {c capc mn : Nat} {old : Bool} {v : List Int32} (hi : yi S P it) (hq : yq I P it q π) (hold : I it 3 = nI old.toNat) (h4 : q.length < 4) (hmn : mn ≤ 1) (hb2 : yb S P c capc) (hy2 : ys I c v) (hv : v.length ≤ 61) (hvc : v.length ≤ capc) (hdis : c + 1 < it ∨ it + 14 ≤ c) (hd1 : 2 ≤ d) (K : ∀ (I' : cn_I), yq I' P it (if mn = 0 then q ++ [(v, nI 0)] else if old = true then mk1 (q ++ [(v, nI 0)]) else q ++ [(v, nI 1)]) π → fri I I' it → Q none S I' P) : cn_V l en mi_It_addNotice d 0 0 S I P Q 40 [(0, .ref it), (1, .ref c), (2, .int (nI mn))] [] := by
  have hπ : π q.length < 4 := hq.2.2.1.1 _ h4
  have hob := tn_le old
  obtain ⟨hN1, hN2, hN3⟩ := hi.2.2.2 _ hπ
  refine cn_aload_n (pc' := 41) (k := 0) rfl rfl d_It_addNotice_40 rfl ?_
  refine cn_getP (pc' := 44) (b := (it + 1)) hi.2.1 fl_It_11 hi.1 rfl d_It_addNotice_41 rfl ?_
  refine cn_aload_n (pc' := 45) (k := 0) rfl rfl d_It_addNotice_44 rfl ?_
  refine cn_getIv (pc' := 48) (v := nI (q.length)) hq.1 fl_It_29 hi.1 rfl d_It_addNotice_45 rfl ?_
  refine cn_aald (pc' := 49) (b := (it + 2 + 3 * π q.length)) hi.2.2.1 (by decide) (by decide) rfl (by omega) (by decide) (hq.2.2.1.2.2 _ h4) d_It_addNotice_48 rfl ?_
  refine cn_astore_n (pc' := 50) (lv' := [(0, .ref it), (1, .ref c), (2, .int (nI (mn))), (3, .ref ((it + 2 + 3 * π q.length)))]) rfl [1, 2, 3, 0] (Nat.le_of_ble_eq_true rfl) rfl d_It_addNotice_49 rfl ?_
  refine cn_aload_n (pc' := 51) (k := 3) rfl rfl d_It_addNotice_50 rfl ?_
  refine cn_getP (pc' := 54) (b := (it + 3 + 3 * π q.length)) hN2 fl_It_35 hN1 rfl d_It_addNotice_51 rfl ?_
  refine cn_callV (pc' := 57) (kc1 := 0) (ks1 := 0) (kc2 := 0) (ks2 := 0) (rest := []) (lvj := [(0, .ref ((it + 3 + 3 * π q.length)))]) [] mv_It_39 hN3.1 rfl rfl rfl (Nat.le_of_ble_eq_true rfl) (Nat.le_of_ble_eq_true rfl) (by omega) (by omega) (by omega) d_It_addNotice_54 rfl ?_
  refine c_By_clear (b := it + 3 + 3 * π q.length) (cap := 61) hN3 (fun I1 hy1 hf1 => ?_)
  show cn_V l en mi_It_addNotice d 0 0 S I1 P Q 57 [(0, .ref it), (1, .ref c), (2, .int (nI (mn))), (3, .ref ((it + 2 + 3 * π q.length)))] []
  refine cn_aload_n (pc' := 58) (k := 3) rfl rfl d_It_addNotice_57 rfl ?_
  refine cn_getP (pc' := 61) (b := (it + 3 + 3 * π q.length)) hN2 fl_It_35 hN1 rfl d_It_addNotice_58 rfl ?_
  refine cn_aload_n (pc' := 62) (k := 1) rfl rfl d_It_addNotice_61 rfl ?_
  refine cn_callV (pc' := 65) (kc1 := 0) (ks1 := 0) (kc2 := 0) (ks2 := 0) (rest := []) (lvj := [(0, .ref ((it + 3 + 3 * π q.length))), (1, .ref c)]) [.ref c] mv_It_44 hN3.1 rfl rfl rfl (Nat.le_of_ble_eq_true rfl) (Nat.le_of_ble_eq_true rfl) (by omega) (by omega) (by omega) d_It_addNotice_62 rfl ?_
  refine c_By_append (b := it + 3 + 3 * π q.length) (c := c) (cap := 61) (cap2 := capc) hN3 hy1 (Nat.zero_le _) hb2 (hy2.keep hf1 (by omega) (by omega) (by omega)) hvc (by omega) (by omega) (by omega) (fun I2 hy3 hf2 => ?_)
  rw [List.nil_append, List.take_of_length_le hv] at hy3
  show cn_V l en mi_It_addNotice d 0 0 S I2 P Q 65 [(0, .ref it), (1, .ref c), (2, .int (nI (mn))), (3, .ref ((it + 2 + 3 * π q.length)))] []
  refine cn_aload_n (pc' := 66) (k := 3) rfl rfl d_It_addNotice_65 rfl ?_
  refine cn_iconst (pc' := 67) k_c_0 d_It_addNotice_66 rfl ?_
  refine cn_putI (pc' := 70) fl_It_48 hN1 rfl rfl rfl rfl d_It_addNotice_67 rfl ?_
  refine cn_aload_n (pc' := 71) (k := 0) rfl rfl d_It_addNotice_70 rfl ?_
  refine cn_dup (pc' := 72) rfl d_It_addNotice_71 rfl ?_
  refine cn_getIv (pc' := 75) (v := nI (q.length)) (by rw [cn_wi_ne (by omega), hf2 it (by omega) (by omega), hf1 it (by omega) (by omega)]; exact hq.1) fl_It_29 hi.1 rfl d_It_addNotice_72 rfl ?_
  refine cn_iconst (pc' := 76) k_c_1 d_It_addNotice_75 rfl ?_
  refine cn_iadd_n (pc' := 77) d_It_addNotice_76 rfl ?_
  refine cn_putI (pc' := 80) fl_It_29 hi.1 rfl rfl rfl rfl d_It_addNotice_77 rfl ?_
  refine cn_iload_n (pc' := 81) (k := 2) rfl rfl d_It_addNotice_80 rfl ?_
  refine cn_if_eq_n (tgt := 110) (pc' := 84) (by omega) d_It_addNotice_81 (by decide) rfl (fun hc81 => ?_) (fun hc81 => ?_)
  · refine cn_vret rfl d_It_addNotice_110 ?_
    have hfr : ∀ a, a ≠ it → a ≠ it + 2 + 3 * π q.length → a ≠ it + 3 + 3 * π q.length → a ≠ it + 4 + 3 * π q.length → cn_wi (cn_wi I2 (it + 2 + 3 * π q.length) 1 (nI 0)) it 4 (nI (q.length + 1)) a = I a := fun a x1 x2 x3 x4 => by rw [cn_wi_ne x1, cn_wi_ne x2, hf2 a x3 (by omega), hf1 a x3 (by omega)]
    have hit : ∀ k, k ≠ 4 → cn_wi (cn_wi I2 (it + 2 + 3 * π q.length) 1 (nI 0)) it 4 (nI (q.length + 1)) it k = I it k := fun k hk => by rw [cn_wi_row, show upd (cn_wi I2 (it + 2 + 3 * π q.length) 1 (nI 0) it) 4 (nI (q.length + 1)) k = cn_wi I2 (it + 2 + 3 * π q.length) 1 (nI 0) it k from if_neg hk, cn_wi_ne (by omega), hf2 it (by omega) (by omega), hf1 it (by omega) (by omega)]
    have hys : ys (cn_wi (cn_wi I2 (it + 2 + 3 * π q.length) 1 (nI 0)) it 4 (nI (q.length + 1))) (it + 3 + 3 * π q.length) v := ys_cong1 (ys_cong1 hy3 (by omega) (by omega)) (by omega) (by omega)
    have hmk : cn_wi (cn_wi I2 (it + 2 + 3 * π q.length) 1 (nI 0)) it 4 (nI (q.length + 1)) (it + 2 + 3 * π q.length) 1 = nI 0 := by rw [cn_wi_ne (by omega)]; simp [cn_wi, upd]
    have e : mn = 0 := hc81
    refine K _ ?_ ⟨fun a h => hfr a (by omega) (by omega) (by omega) (by omega), hit 1 (by omega), hit 2 (by omega), hit 3 (by omega)⟩
    rw [if_pos e]
    exact yq_push hq h4 (by simp [cn_wi, upd]) hys hv hmk hfr
  · refine cn_aload_n (pc' := 85) (k := 0) rfl rfl d_It_addNotice_84 rfl ?_
    refine cn_getP (pc' := 88) (b := (it + 1)) hi.2.1 fl_It_11 hi.1 rfl d_It_addNotice_85 rfl ?_
    refine cn_aload_n (pc' := 89) (k := 0) rfl rfl d_It_addNotice_88 rfl ?_
    refine cn_getIv (pc' := 92) (v := nI (old.toNat)) (by simp only [cn_wi_row]; rw [show upd (cn_wi I2 (it + 2 + 3 * π q.length) 1 (nI 0) it) 4 (nI (q.length + 1)) 3 = cn_wi I2 (it + 2 + 3 * π q.length) 1 (nI 0) it 3 from rfl, cn_wi_ne (by omega), hf2 it (by omega) (by omega), hf1 it (by omega) (by omega)]; exact hold) fl_It_25 hi.1 rfl d_It_addNotice_89 rfl ?_
    refine cn_if_eq_n (tgt := 99) (pc' := 95) (by omega) d_It_addNotice_92 (by decide) rfl (fun hc92 => ?_) (fun hc92 => ?_)
    · refine cn_aload_n (pc' := 100) (k := 0) rfl rfl d_It_addNotice_99 rfl ?_
      refine cn_getIv (pc' := 103) (v := nI (q.length + 1)) (by simp [cn_wi, upd]) fl_It_29 hi.1 rfl d_It_addNotice_100 rfl ?_
      refine cn_iconst (pc' := 104) k_c_1 d_It_addNotice_103 rfl ?_
      refine cn_isub_n (pc' := 105) (by omega) d_It_addNotice_104 rfl ?_
      refine cn_aald (pc' := 106) (b := (it + 2 + 3 * π q.length)) hi.2.2.1 (by decide) (by decide) rfl (by omega) (by decide) (by rw [Nat.add_sub_cancel]; exact hq.2.2.1.2.2 _ h4) d_It_addNotice_105 rfl ?_
      refine cn_iconst (pc' := 107) k_c_1 d_It_addNotice_106 rfl ?_
      refine cn_putI (pc' := 110) fl_It_48 hN1 rfl rfl rfl rfl d_It_addNotice_107 rfl ?_
      refine cn_vret rfl d_It_addNotice_110 ?_
      have hfr : ∀ a, a ≠ it → a ≠ it + 2 + 3 * π q.length → a ≠ it + 3 + 3 * π q.length → a ≠ it + 4 + 3 * π q.length → cn_wi (cn_wi I2 (it + 2 + 3 * π q.length) 1 (nI 0)) it 4 (nI (q.length + 1)) a = I a := fun a x1 x2 x3 x4 => by rw [cn_wi_ne x1, cn_wi_ne x2, hf2 a x3 (by omega), hf1 a x3 (by omega)]
      have hit : ∀ k, k ≠ 4 → cn_wi (cn_wi I2 (it + 2 + 3 * π q.length) 1 (nI 0)) it 4 (nI (q.length + 1)) it k = I it k := fun k hk => by rw [cn_wi_row, show upd (cn_wi I2 (it + 2 + 3 * π q.length) 1 (nI 0) it) 4 (nI (q.length + 1)) k = cn_wi I2 (it + 2 + 3 * π q.length) 1 (nI 0) it k from if_neg hk, cn_wi_ne (by omega), hf2 it (by omega) (by omega), hf1 it (by omega) (by omega)]
      have hys : ys (cn_wi (cn_wi I2 (it + 2 + 3 * π q.length) 1 (nI 0)) it 4 (nI (q.length + 1))) (it + 3 + 3 * π q.length) v := ys_cong1 (ys_cong1 hy3 (by omega) (by omega)) (by omega) (by omega)
      have hmk : cn_wi (cn_wi I2 (it + 2 + 3 * π q.length) 1 (nI 0)) it 4 (nI (q.length + 1)) (it + 2 + 3 * π q.length) 1 = nI 0 := by rw [cn_wi_ne (by omega)]; simp [cn_wi, upd]
      have e : ¬ old = true := by rw [tn_0 hc92]; decide
      refine K _ ?_ ⟨fun a h => by rw [cn_wi_ne (by omega)]; exact hfr a (by omega) (by omega) (by omega) (by omega), by rw [cn_wi_ne (by omega)]; exact hit 1 (by omega), by rw [cn_wi_ne (by omega)]; exact hit 2 (by omega), by rw [cn_wi_ne (by omega)]; exact hit 3 (by omega)⟩
      rw [if_neg hc81, if_neg e]
      exact yq_push hq h4 (by rw [cn_wi_ne (by omega)]; simp [cn_wi, upd]) (ys_cong1 hys (by omega) (by omega)) hv (by simp [cn_wi, upd]) (fun a x1 x2 x3 x4 => by rw [cn_wi_ne x2]; exact hfr a x1 x2 x3 x4)
    · refine cn_iconst (pc' := 96) k_c_0 d_It_addNotice_95 rfl ?_
      refine cn_goto (tgt := 105) d_It_addNotice_96 (by decide) ?_
      refine cn_aald (pc' := 106) (b := (it + 2 + 3 * π 0)) hi.2.2.1 (by decide) (by decide) rfl (by omega) (by decide) (hq.2.2.1.2.2 0 (by omega)) d_It_addNotice_105 rfl ?_
      refine cn_iconst (pc' := 107) k_c_1 d_It_addNotice_106 rfl ?_
      refine cn_putI (pc' := 110) fl_It_48 (hi.2.2.2 _ (hq.2.2.1.1 _ (by omega))).1 rfl rfl rfl rfl d_It_addNotice_107 rfl ?_
      refine cn_vret rfl d_It_addNotice_110 ?_
      have hfr : ∀ a, a ≠ it → a ≠ it + 2 + 3 * π q.length → a ≠ it + 3 + 3 * π q.length → a ≠ it + 4 + 3 * π q.length → cn_wi (cn_wi I2 (it + 2 + 3 * π q.length) 1 (nI 0)) it 4 (nI (q.length + 1)) a = I a := fun a x1 x2 x3 x4 => by rw [cn_wi_ne x1, cn_wi_ne x2, hf2 a x3 (by omega), hf1 a x3 (by omega)]
      have hit : ∀ k, k ≠ 4 → cn_wi (cn_wi I2 (it + 2 + 3 * π q.length) 1 (nI 0)) it 4 (nI (q.length + 1)) it k = I it k := fun k hk => by rw [cn_wi_row, show upd (cn_wi I2 (it + 2 + 3 * π q.length) 1 (nI 0) it) 4 (nI (q.length + 1)) k = cn_wi I2 (it + 2 + 3 * π q.length) 1 (nI 0) it k from if_neg hk, cn_wi_ne (by omega), hf2 it (by omega) (by omega), hf1 it (by omega) (by omega)]
      have hys : ys (cn_wi (cn_wi I2 (it + 2 + 3 * π q.length) 1 (nI 0)) it 4 (nI (q.length + 1))) (it + 3 + 3 * π q.length) v := ys_cong1 (ys_cong1 hy3 (by omega) (by omega)) (by omega) (by omega)
      have hmk : cn_wi (cn_wi I2 (it + 2 + 3 * π q.length) 1 (nI 0)) it 4 (nI (q.length + 1)) (it + 2 + 3 * π q.length) 1 = nI 0 := by rw [cn_wi_ne (by omega)]; simp [cn_wi, upd]
      have e : old = true := tn_1 hc92
      have hπ0 : π 0 < 4 := hq.2.2.1.1 0 (by omega)
      refine K _ ?_ ⟨fun a h => by rw [cn_wi_ne (by omega)]; exact hfr a (by omega) (by omega) (by omega) (by omega), by rw [cn_wi_ne (by omega)]; exact hit 1 (by omega), by rw [cn_wi_ne (by omega)]; exact hit 2 (by omega), by rw [cn_wi_ne (by omega)]; exact hit 3 (by omega)⟩
      rw [if_neg hc81, if_pos e]
      exact yq_mk1 (yq_push hq h4 (by simp [cn_wi, upd]) hys hv hmk hfr) (by rw [List.length_append]; exact Nat.succ_pos _)
theorem c_It_addNotice {c capc cap : Nat} {old : Bool} {v : List Int32} (hi : yi S P it) (hq : yq I P it q π) (hcap : I it 2 = nI cap) (hold : I it 3 = nI old.toNat) (hc1 : 1 ≤ cap) (hc4 : cap ≤ 4) (hql : q.length ≤ cap) (hb2 : yb S P c capc) (hy2 : ys I c v) (hv : v.length ≤ 61) (hvc : v.length ≤ capc) (hdis : c + 1 < it ∨ it + 14 ≤ c) (hd1 : 3 ≤ d) (K : ∀ (I' : cn_I) (P' : cn_P) (π' : Nat → Nat), yq I' P' it (nq cap old q v) π' → fri I I' it → frP P P' (it + 1) → Q none S I' P') : cn_V l en mi_It_addNotice d 0 0 S I P Q 0 [(0, .ref it), (1, .ref c)] [] := by
  refine cn_aload_n (pc' := 1) (k := 0) rfl rfl d_It_addNotice_0 rfl ?_
  refine cn_getIv (pc' := 4) (v := nI (q.length)) hq.1 fl_It_29 hi.1 rfl d_It_addNotice_1 rfl ?_
  refine cn_aload_n (pc' := 5) (k := 0) rfl rfl d_It_addNotice_4 rfl ?_
  refine cn_getIv (pc' := 8) (v := nI (cap)) hcap fl_It_17 hi.1 rfl d_It_addNotice_5 rfl ?_
  refine cn_icmp_ne_n (tgt := 23) (pc' := 11) (by omega) (by omega) d_It_addNotice_8 (by decide) rfl (fun hc8 => ?_) (fun hc8 => ?_)
  · refine cn_iconst (pc' := 24) k_c_0 d_It_addNotice_23 rfl ?_
    refine cn_istore_n (pc' := 25) (lv' := [(0, .ref it), (1, .ref c), (2, .int (nI (0)))]) rfl [1, 2, 0] (Nat.le_of_ble_eq_true rfl) rfl d_It_addNotice_24 rfl ?_
    refine cn_aload_n (pc' := 26) (k := 0) rfl rfl d_It_addNotice_25 rfl ?_
    refine cn_getIv (pc' := 29) (v := nI (q.length)) hq.1 fl_It_29 hi.1 rfl d_It_addNotice_26 rfl ?_
    refine cn_aload_n (pc' := 30) (k := 0) rfl rfl d_It_addNotice_29 rfl ?_
    refine cn_getIv (pc' := 33) (v := nI (cap)) hcap fl_It_17 hi.1 rfl d_It_addNotice_30 rfl ?_
    refine cn_icmp_ne_n (tgt := 40) (pc' := 36) (by omega) (by omega) d_It_addNotice_33 (by decide) rfl (fun hc33 => ?_) (fun hc33 => ?_)
    · refine c_It_addNotice_2 hi hq hold (by omega) (by omega) hb2 hy2 hv hvc hdis (by omega) (fun I2 hq2 hf2 => ?_)
      rw [if_pos rfl] at hq2
      refine K I2 P π ?_ hf2 (fun a _ => rfl)
      unfold nq; rw [if_neg (by omega)]; exact hq2
    · exact absurd hc33 (by omega)
  · refine cn_aload_n (pc' := 12) (k := 0) rfl rfl d_It_addNotice_11 rfl ?_
    refine cn_getIv (pc' := 15) (v := nI (cap)) hcap fl_It_17 hi.1 rfl d_It_addNotice_12 rfl ?_
    refine cn_iconst (pc' := 16) k_c_1 d_It_addNotice_15 rfl ?_
    refine cn_icmp_le_n (tgt := 23) (pc' := 19) (by omega) (by omega) d_It_addNotice_16 (by decide) rfl (fun hc16 => ?_) (fun hc16 => ?_)
    · refine cn_iconst (pc' := 24) k_c_0 d_It_addNotice_23 rfl ?_
      refine cn_istore_n (pc' := 25) (lv' := [(0, .ref it), (1, .ref c), (2, .int (nI (0)))]) rfl [1, 2, 0] (Nat.le_of_ble_eq_true rfl) rfl d_It_addNotice_24 rfl ?_
      refine cn_aload_n (pc' := 26) (k := 0) rfl rfl d_It_addNotice_25 rfl ?_
      refine cn_getIv (pc' := 29) (v := nI (q.length)) hq.1 fl_It_29 hi.1 rfl d_It_addNotice_26 rfl ?_
      refine cn_aload_n (pc' := 30) (k := 0) rfl rfl d_It_addNotice_29 rfl ?_
      refine cn_getIv (pc' := 33) (v := nI (cap)) hcap fl_It_17 hi.1 rfl d_It_addNotice_30 rfl ?_
      refine cn_icmp_ne_n (tgt := 40) (pc' := 36) (by omega) (by omega) d_It_addNotice_33 (by decide) rfl (fun hc33 => ?_) (fun hc33 => ?_)
      · exact absurd (by omega) hc33
      · refine cn_aload_n (pc' := 37) (k := 0) rfl rfl d_It_addNotice_36 rfl ?_
        refine cn_callV (pc' := 40) (kc1 := 0) (ks1 := 0) (kc2 := 0) (ks2 := 0) (rest := []) (lvj := [(0, .ref it)]) [] mv_It_32 hi.1 rfl rfl rfl (Nat.le_of_ble_eq_true rfl) (Nat.le_of_ble_eq_true rfl) (by omega) (by omega) (by omega) d_It_addNotice_37 rfl ?_
        refine c_It_discard hi hq (by omega) hold (by omega) (fun I1 P1 π1 hq1 hf1 hP1 => ?_)
        show cn_V l en mi_It_addNotice d 0 0 S I1 P1 Q 40 [(0, .ref it), (1, .ref c), (2, .int (nI (0)))] []
        have hi1 : yi S P1 it := hi.keepP hP1
        have hyb1 : yb S P1 c capc := ⟨hb2.1, by rw [hP1 c (by omega)]; exact hb2.2.1, hb2.2.2⟩
        have hys1 : ys I1 c v := hy2.congr (hf1.1 c (by omega)) (hf1.1 (c + 1) (by omega))
        have hlen : (if old = true then q.tail else q.dropLast).length = q.length - 1 := by cases old <;> simp
        refine c_It_addNotice_2 (old := old) hi1 hq1 (by rw [hf1.2.2.2]; exact hold) (by omega) (by omega) hyb1 hys1 hv hvc hdis (by omega) (fun I2 hq2 hf2 => ?_)
        refine K I2 P1 π1 ?_ ⟨fun a h => (hf2.1 a h).trans (hf1.1 a h), hf2.2.1.trans hf1.2.1, hf2.2.2.1.trans hf1.2.2.1, hf2.2.2.2.trans hf1.2.2.2⟩ hP1
        rw [if_pos rfl] at hq2
        unfold nq; rw [if_pos (by omega)]
        cases old
        · simp only [if_true, if_false, Bool.false_eq_true] at hq2 ⊢
          rw [if_neg (by omega)]; exact hq2
        · simp only [if_true, if_false, Bool.false_eq_true] at hq2 ⊢
          rw [if_neg (by omega)]; exact hq2
    · refine cn_iconst (pc' := 20) k_c_1 d_It_addNotice_19 rfl ?_
      refine cn_goto (tgt := 24) d_It_addNotice_20 (by decide) ?_
      refine cn_istore_n (pc' := 25) (lv' := [(0, .ref it), (1, .ref c), (2, .int (nI (1)))]) rfl [1, 2, 0] (Nat.le_of_ble_eq_true rfl) rfl d_It_addNotice_24 rfl ?_
      refine cn_aload_n (pc' := 26) (k := 0) rfl rfl d_It_addNotice_25 rfl ?_
      refine cn_getIv (pc' := 29) (v := nI (q.length)) hq.1 fl_It_29 hi.1 rfl d_It_addNotice_26 rfl ?_
      refine cn_aload_n (pc' := 30) (k := 0) rfl rfl d_It_addNotice_29 rfl ?_
      refine cn_getIv (pc' := 33) (v := nI (cap)) hcap fl_It_17 hi.1 rfl d_It_addNotice_30 rfl ?_
      refine cn_icmp_ne_n (tgt := 40) (pc' := 36) (by omega) (by omega) d_It_addNotice_33 (by decide) rfl (fun hc33 => ?_) (fun hc33 => ?_)
      · exact absurd (by omega) hc33
      · refine cn_aload_n (pc' := 37) (k := 0) rfl rfl d_It_addNotice_36 rfl ?_
        refine cn_callV (pc' := 40) (kc1 := 0) (ks1 := 0) (kc2 := 0) (ks2 := 0) (rest := []) (lvj := [(0, .ref it)]) [] mv_It_32 hi.1 rfl rfl rfl (Nat.le_of_ble_eq_true rfl) (Nat.le_of_ble_eq_true rfl) (by omega) (by omega) (by omega) d_It_addNotice_37 rfl ?_
        refine c_It_discard hi hq (by omega) hold (by omega) (fun I1 P1 π1 hq1 hf1 hP1 => ?_)
        show cn_V l en mi_It_addNotice d 0 0 S I1 P1 Q 40 [(0, .ref it), (1, .ref c), (2, .int (nI (1)))] []
        have hi1 : yi S P1 it := hi.keepP hP1
        have hyb1 : yb S P1 c capc := ⟨hb2.1, by rw [hP1 c (by omega)]; exact hb2.2.1, hb2.2.2⟩
        have hys1 : ys I1 c v := hy2.congr (hf1.1 c (by omega)) (hf1.1 (c + 1) (by omega))
        have hlen : (if old = true then q.tail else q.dropLast).length = q.length - 1 := by cases old <;> simp
        refine c_It_addNotice_2 (old := old) hi1 hq1 (by rw [hf1.2.2.2]; exact hold) (by omega) (by omega) hyb1 hys1 hv hvc hdis (by omega) (fun I2 hq2 hf2 => ?_)
        refine K I2 P1 π1 ?_ ⟨fun a h => (hf2.1 a h).trans (hf1.1 a h), hf2.2.1.trans hf1.2.1, hf2.2.2.1.trans hf1.2.2.1, hf2.2.2.2.trans hf1.2.2.2⟩ hP1
        rw [if_neg (by decide)] at hq2
        unfold nq; rw [if_pos (by omega)]
        cases old
        · simp only [if_true, if_false, Bool.false_eq_true] at hq2 ⊢
          rw [if_pos (by omega)]; exact hq2
        · simp only [if_true, if_false, Bool.false_eq_true] at hq2 ⊢
          rw [if_pos (by omega)]; exact hq2
end
end
section
abbrev sPar : Type := Int32 × List Int32
def pad : sPar := (0, [])
def yh (S : cn_S) (P : cn_P) (sf : Nat) : Prop := cn_ob S sf 7 ∧ P sf 0 = some (sf + 1) ∧ cn_ar S (sf + 1) 6 3 ∧ ∀ q, q < 3 → cn_ob S (sf + 2 + 3 * q) 6 ∧ P (sf + 2 + 3 * q) 1 = some (sf + 3 + 3 * q) ∧ yb S P (sf + 3 + 3 * q) 194
theorem yh.keepP {S : cn_S} {P P' : cn_P} {sf : Nat} (h : yh S P sf) (hf : ∀ a, a ≠ sf + 1 → P' a = P a) : yh S P' sf := by
  refine ⟨h.1, by rw [hf sf (by omega)]; exact h.2.1, h.2.2.1, fun q hq => ?_⟩
  obtain ⟨a1, a2, a3⟩ := h.2.2.2 q hq
  exact ⟨a1, by rw [hf _ (by omega)]; exact a2, a3.1, by rw [hf _ (by omega)]; exact a3.2.1, a3.2.2⟩
def yk (I : cn_I) (P : cn_P) (sf : Nat) (ps : List sPar) (π : Nat → Nat) : Prop := I sf 1 = nI ps.length ∧ ps.length ≤ 3 ∧ ypm P (sf + 1) (sf + 2) 3 π ∧ ∀ j, j < ps.length → I (sf + 2 + 3 * π j) 0 = (ps.getD j pad).1 ∧ ys I (sf + 3 + 3 * π j) (ps.getD j pad).2 ∧ (ps.getD j pad).2.length ≤ 194
theorem pd_erase (ps : List sPar) (k j : Nat) : (ps.eraseIdx k).getD j pad = if j < k then ps.getD j pad else ps.getD (j + 1) pad := by
  rw [List.getD_eq_getElem?_getD, List.getElem?_eraseIdx]
  split
  · rw [List.getD_eq_getElem?_getD]
  · rw [List.getD_eq_getElem?_getD]
theorem yk_erase {I : cn_I} {P : cn_P} {sf k : Nat} {ps : List sPar} {π : Nat → Nat} (h : yk I P sf ps π) (hk : k < ps.length) : yk (cn_wi I sf 1 (nI (ps.length - 1))) (cn_wq P (sf + 1) (rot (P (sf + 1)) k ps.length)) sf (ps.eraseIdx k) (rot π k ps.length) := by
  have hl := h.2.1
  have hle : (ps.eraseIdx k).length = ps.length - 1 := List.length_eraseIdx_of_lt hk
  refine ⟨by rw [hle]; simp [cn_wi, upd], by rw [hle]; omega, ypm_rot h.2.2.1 hk hl, fun j hj => ?_⟩
  rw [hle] at hj
  rw [pd_erase]
  by_cases hjk : j < k
  · have e : rot π k ps.length j = π j := by unfold rot; rw [if_neg (by omega), if_neg (by omega)]
    obtain ⟨a1, a2, a3⟩ := h.2.2.2 j (by omega)
    rw [e, if_pos hjk]
    exact ⟨by rw [cn_wi_ne (by omega)]; exact a1, a2.congr (cn_wi_ne (by omega)) (cn_wi_ne (by omega)), a3⟩
  · have e : rot π k ps.length j = π (j + 1) := if_pos (by omega)
    obtain ⟨a1, a2, a3⟩ := h.2.2.2 (j + 1) (by omega)
    rw [e, if_neg hjk]
    exact ⟨by rw [cn_wi_ne (by omega)]; exact a1, a2.congr (cn_wi_ne (by omega)) (cn_wi_ne (by omega)), a3⟩
theorem pd_l {v w : List sPar} {j : Nat} (h : j < v.length) : (v ++ w).getD j pad = v.getD j pad := by
  rw [List.getD_eq_getElem?_getD, List.getD_eq_getElem?_getD, List.getElem?_append_left h]
theorem pd_last (v : List sPar) (a : sPar) : (v ++ [a]).getD v.length pad = a := by
  rw [List.getD_eq_getElem?_getD, List.getElem?_append_right (Nat.le_refl _), Nat.sub_self]; rfl
theorem yk_push {I I' : cn_I} {P : cn_P} {sf : Nat} {ps : List sPar} {π : Nat → Nat} {n : Int32} {u : List Int32} (h : yk I P sf ps π) (h3 : ps.length < 3) (hn : I' sf 1 = nI (ps.length + 1)) (h0 : I' (sf + 2 + 3 * π ps.length) 0 = n) (hy : ys I' (sf + 3 + 3 * π ps.length) u) (hu : u.length ≤ 194) (hf : ∀ a, a ≠ sf → a ≠ sf + 2 + 3 * π ps.length → a ≠ sf + 3 + 3 * π ps.length → a ≠ sf + 4 + 3 * π ps.length → I' a = I a) : yk I' P sf (ps ++ [(n, u)]) π := by
  refine ⟨by rw [List.length_append]; exact hn, by rw [List.length_append]; exact h3, h.2.2.1, fun j hj => ?_⟩
  rw [List.length_append] at hj
  have hj : j < ps.length + 1 := hj
  by_cases e : j = ps.length
  · subst e
    rw [pd_last]
    exact ⟨h0, hy, hu⟩
  · have hlt : j < ps.length := by omega
    rw [pd_l hlt]
    obtain ⟨a1, a2, a3⟩ := h.2.2.2 j hlt
    have hne : π j ≠ π ps.length := fun z => e (h.2.2.1.2.1 j ps.length (by omega) h3 z)
    exact ⟨by rw [hf _ (by omega) (by omega) (by omega) (by omega)]; exact a1, a2.congr (hf _ (by omega) (by omega) (by omega) (by omega)) (hf _ (by omega) (by omega) (by omega) (by omega)), a3⟩
/-- the last parcel's content has grown -/
theorem yk_last {I I' : cn_I} {P : cn_P} {sf : Nat} {ps : List sPar} {π : Nat → Nat} {n : Int32} {u u' : List Int32} (h : yk I P sf (ps ++ [(n, u)]) π) (hy : ys I' (sf + 3 + 3 * π ps.length) u') (hu : u'.length ≤ 194) (hf : fr2 I I' (sf + 3 + 3 * π ps.length)) : yk I' P sf (ps ++ [(n, u')]) π := by
  have hl : ps.length + 1 ≤ 3 := by have := h.2.1; rw [List.length_append] at this; exact this
  refine ⟨by rw [hf sf (by omega) (by omega)]; have := h.1; rw [List.length_append] at this ⊢; exact this, by rw [List.length_append]; exact hl, h.2.2.1, fun j hj => ?_⟩
  rw [List.length_append] at hj
  have hj : j < ps.length + 1 := hj
  obtain ⟨a1, a2, a3⟩ := h.2.2.2 j (by rw [List.length_append]; exact hj)
  by_cases e : j = ps.length
  · subst e
    rw [pd_last] at a1 ⊢
    exact ⟨by rw [hf _ (by omega) (by omega)]; exact a1, hy, hu⟩
  · have hlt : j < ps.length := by omega
    rw [pd_l hlt] at a1 a2 a3 ⊢
    have hne : π j ≠ π ps.length := fun z => e (h.2.2.1.2.1 j ps.length (by omega) (by omega) z)
    exact ⟨by rw [hf _ (by omega) (by omega)]; exact a1, a2.keep hf (by omega) (by omega) (by omega), a3⟩
/-- the first parcel with a number is kept no more -/
def pdrop : List sPar → Int32 → List sPar
  | [], _ => []
  | a :: t, x => if a.1 = x then t else a :: pdrop t x
theorem pdrop_some {x : Int32} : ∀ (ps : List sPar) (k : Nat), k < ps.length → (ps.getD k pad).1 = x → (∀ j, j < k → (ps.getD j pad).1 ≠ x) → pdrop ps x = ps.eraseIdx k
  | [], k, hk, _, _ => absurd hk (Nat.not_lt_zero k)
  | a :: t, 0, _, h, _ => by unfold pdrop; rw [if_pos (show a.1 = x from h)]; rfl
  | a :: t, k + 1, hk, h, hn => by
    unfold pdrop
    rw [if_neg (show ¬ a.1 = x from hn 0 (by omega))]
    show a :: pdrop t x = a :: t.eraseIdx k
    rw [pdrop_some t k (Nat.lt_of_succ_lt_succ hk) h (fun j hj => hn (j + 1) (by omega))]
theorem pdrop_none {x : Int32} : ∀ ps : List sPar, (∀ j, j < ps.length → (ps.getD j pad).1 ≠ x) → pdrop ps x = ps
  | [], _ => rfl
  | a :: t, h => by
    unfold pdrop
    rw [if_neg (show ¬ a.1 = x from h 0 (Nat.succ_pos _)), pdrop_none t (fun j hj => h (j + 1) (Nat.succ_lt_succ hj))]
/-- nothing changed but the shelf's own cells, and of its fields only 'kept' -/
def frs (I I' : cn_I) (sf : Nat) : Prop := ∀ a, a < sf ∨ sf + 11 ≤ a → I' a = I a
section
variable {l : Launch} {en : cn_E} {d : Nat} {S : cn_S} {I : cn_I} {P : cn_P} {Q : Option Value → cn_S → cn_I → cn_P → Prop}
variable {sf : Nat} {ps : List sPar} {π : Nat → Nat}
theorem c_Sf_restart (hh : yh S P sf) (hk : yk I P sf ps π) (K : ∀ I', yk I' P sf [] π → I' sf 2 = nI 0 → frs I I' sf → Q none S I' P) : cn_V l en mi_Sf_restart d 0 0 S I P Q 0 [(0, .ref sf)] [] := by
  refine cn_aload_n (pc' := 1) (k := 0) rfl rfl d_Sf_restart_0 rfl ?_
  refine cn_iconst (pc' := 2) k_c_0 d_Sf_restart_1 rfl ?_
  refine cn_putI (pc' := 5) fl_Sf_18 hh.1 rfl rfl rfl rfl d_Sf_restart_2 rfl ?_
  refine cn_aload_n (pc' := 6) (k := 0) rfl rfl d_Sf_restart_5 rfl ?_
  refine cn_iconst (pc' := 7) k_c_0 d_Sf_restart_6 rfl ?_
  refine cn_putI (pc' := 10) fl_Sf_22 hh.1 rfl rfl rfl rfl d_Sf_restart_7 rfl ?_
  refine cn_vret rfl d_Sf_restart_10 ?_
  exact K _ ⟨by simp [cn_wi, upd], by decide, hk.2.2.1, fun j hj => absurd hj (Nat.not_lt_zero j)⟩ (by simp [cn_wi, upd]) (fun a h => by rw [cn_wi_ne (by omega), cn_wi_ne (by omega)])
theorem c_Sf_find_loop {x : Int32} (hh : yh S P sf) (hk : yk I P sf ps π) (K1 : ∀ k, k < ps.length → (ps.getD k pad).1 = x → (∀ j, j < k → (ps.getD j pad).1 ≠ x) → Q (some (.int (nI k))) S I P) (K0 : (∀ j, j < ps.length → (ps.getD j pad).1 ≠ x) → Q (some (.int (-1))) S I P) : ∀ k i : Nat, i + k = ps.length → (∀ j, j < i → (ps.getD j pad).1 ≠ x) → cn_V l en mi_Sf_find d 0 0 S I P Q 2 [(0, .ref sf), (1, .int x), (2, .int (nI i))] [] := by
  have hl := hk.2.1
  intro k
  induction k with
  | zero =>
    intro i hik hne
    refine cn_iload_n (pc' := 3) (k := 2) rfl rfl d_Sf_find_2 rfl ?_
    refine cn_aload_n (pc' := 4) (k := 0) rfl rfl d_Sf_find_3 rfl ?_
    refine cn_getIv (pc' := 7) (v := nI (ps.length)) hk.1 fl_Sf_18 hh.1 rfl d_Sf_find_4 rfl ?_
    refine cn_icmp_ge_n (tgt := 31) (pc' := 10) (by omega) (by omega) d_Sf_find_7 (by decide) rfl (fun hc7 => ?_) (fun hc7 => ?_)
    · refine cn_iconst (pc' := 32) k_c_m1 d_Sf_find_31 rfl ?_
      refine cn_iret rfl d_Sf_find_32 ?_
      have e : i = ps.length := by omega
      subst e
      exact K0 hne
    · exact absurd hc7 (by omega)
  | succ k ih =>
    intro i hik hne
    refine cn_iload_n (pc' := 3) (k := 2) rfl rfl d_Sf_find_2 rfl ?_
    refine cn_aload_n (pc' := 4) (k := 0) rfl rfl d_Sf_find_3 rfl ?_
    refine cn_getIv (pc' := 7) (v := nI (ps.length)) hk.1 fl_Sf_18 hh.1 rfl d_Sf_find_4 rfl ?_
    refine cn_icmp_ge_n (tgt := 31) (pc' := 10) (by omega) (by omega) d_Sf_find_7 (by decide) rfl (fun hc7 => ?_) (fun hc7 => ?_)
    · exact absurd hc7 (by omega)
    · refine cn_aload_n (pc' := 11) (k := 0) rfl rfl d_Sf_find_10 rfl ?_
      refine cn_getP (pc' := 14) (b := (sf + 1)) hh.2.1 fl_Sf_11 hh.1 rfl d_Sf_find_11 rfl ?_
      refine cn_iload_n (pc' := 15) (k := 2) rfl rfl d_Sf_find_14 rfl ?_
      refine cn_aald (pc' := 16) (b := (sf + 2 + 3 * π i)) hh.2.2.1 (by decide) (by decide) rfl (by omega) (by decide) (hk.2.2.1.2.2 i (by omega)) d_Sf_find_15 rfl ?_
      refine cn_getIv (pc' := 19) (v := (ps.getD i pad).1) (hk.2.2.2 i (by omega)).1 fl_Sf_25 (hh.2.2.2 _ (hk.2.2.1.1 _ (by omega))).1 rfl d_Sf_find_16 rfl ?_
      refine cn_iload_n (pc' := 20) (k := 1) rfl rfl d_Sf_find_19 rfl ?_
      refine cn_icmp_ne (tgt := 25) (pc' := 23) d_Sf_find_20 (by decide) rfl (fun hc20 => ?_) (fun hc20 => ?_)
      · refine cn_iinc_n (pc' := 28) (lv' := [(0, .ref sf), (1, .int (x)), (2, .int (nI (i + 1)))]) (k := 2) [1, 2, 0] rfl (Nat.le_of_ble_eq_true rfl) rfl d_Sf_find_25 rfl ?_
        refine cn_goto (tgt := 2) d_Sf_find_28 (by decide) ?_
        exact ih (i + 1) (by omega) (lt_s hne hc20)
      · refine cn_iload_n (pc' := 24) (k := 2) rfl rfl d_Sf_find_23 rfl ?_
        refine cn_iret rfl d_Sf_find_24 ?_
        exact K1 i (by omega) hc20 hne
theorem c_Sf_find {x : Int32} (hh : yh S P sf) (hk : yk I P sf ps π) (K1 : ∀ k, k < ps.length → (ps.getD k pad).1 = x → (∀ j, j < k → (ps.getD j pad).1 ≠ x) → Q (some (.int (nI k))) S I P) (K0 : (∀ j, j < ps.length → (ps.getD j pad).1 ≠ x) → Q (some (.int (-1))) S I P) : cn_V l en mi_Sf_find d 0 0 S I P Q 0 [(0, .ref sf), (1, .int x)] [] := by
  refine cn_iconst (pc' := 1) k_c_0 d_Sf_find_0 rfl ?_
  refine cn_istore_n (pc' := 2) (lv' := [(0, .ref sf), (1, .int (x)), (2, .int (nI (0)))]) rfl [1, 2, 0] (Nat.le_of_ble_eq_true rfl) rfl d_Sf_find_1 rfl ?_
  exact c_Sf_find_loop hh hk K1 K0 ps.length 0 (by omega) (fun j h => absurd h (Nat.not_lt_zero j))
theorem c_Sf_removeAt_loop {k0 : Nat} (hh : yh S P sf) (hk : yk I P sf ps π) (h0 : k0 < ps.length) (K : Q none S (cn_wi I sf 1 (nI (ps.length - 1))) (cn_wq P (sf + 1) (rot (P (sf + 1)) k0 ps.length))) : ∀ (k i : Nat) (P' : cn_P), i + k = ps.length → k0 + 1 ≤ i → P' = cn_wq P (sf + 1) (shf (P (sf + 1)) k0 i) → cn_V l en mi_Sf_removeAt d 0 0 S I P' Q 11 [(0, .ref sf), (1, .int (nI k0)), (2, .ref (sf + 2 + 3 * π k0)), (3, .int (nI i))] [] := by
  have hl := hk.2.1
  intro k
  induction k with
  | zero =>
    intro i P' hik hi1 hP'
    have hh' : yh S P' sf := hh.keepP (fun a ha => by rw [hP']; exact cn_wq_ne ha)
    have hrow : P' (sf + 1) i = P (sf + 1) i := by rw [hP', cn_wq_row]; unfold shf; rw [if_neg (by omega)]
    refine cn_iload_n (pc' := 12) (k := 3) rfl rfl d_Sf_removeAt_11 rfl ?_
    refine cn_aload_n (pc' := 13) (k := 0) rfl rfl d_Sf_removeAt_12 rfl ?_
    refine cn_getIv (pc' := 16) (v := nI (ps.length)) hk.1 fl_Sf_18 hh'.1 rfl d_Sf_removeAt_13 rfl ?_
    refine cn_icmp_ge_n (tgt := 39) (pc' := 19) (by omega) (by omega) d_Sf_removeAt_16 (by decide) rfl (fun hc16 => ?_) (fun hc16 => ?_)
    · refine cn_aload_n (pc' := 40) (k := 0) rfl rfl d_Sf_removeAt_39 rfl ?_
      refine cn_dup (pc' := 41) rfl d_Sf_removeAt_40 rfl ?_
      refine cn_getIv (pc' := 44) (v := nI (ps.length)) hk.1 fl_Sf_18 hh'.1 rfl d_Sf_removeAt_41 rfl ?_
      refine cn_iconst (pc' := 45) k_c_1 d_Sf_removeAt_44 rfl ?_
      refine cn_isub_n (pc' := 46) (by omega) d_Sf_removeAt_45 rfl ?_
      refine cn_putI (pc' := 49) fl_Sf_18 hh'.1 rfl rfl rfl rfl d_Sf_removeAt_46 rfl ?_
      refine cn_aload_n (pc' := 50) (k := 0) rfl rfl d_Sf_removeAt_49 rfl ?_
      refine cn_getP (pc' := 53) (b := (sf + 1)) hh'.2.1 fl_Sf_11 hh'.1 rfl d_Sf_removeAt_50 rfl ?_
      refine cn_aload_n (pc' := 54) (k := 0) rfl rfl d_Sf_removeAt_53 rfl ?_
      refine cn_getIv (pc' := 57) (v := nI (ps.length - 1)) (by simp [cn_wi, upd]) fl_Sf_18 hh'.1 rfl d_Sf_removeAt_54 rfl ?_
      refine cn_aload_n (pc' := 58) (k := 2) rfl rfl d_Sf_removeAt_57 rfl ?_
      refine cn_aast (pc' := 59) hh'.2.2.1 (by decide) (by decide) (hh'.2.2.2 _ (hk.2.2.1.1 _ (by omega))).1 rfl rfl (by omega) (by decide) d_Sf_removeAt_58 rfl ?_
      refine cn_vret rfl d_Sf_removeAt_59 ?_
      have e : i = ps.length := by omega
      subst e
      rw [hP', ← hk.2.2.1.2.2 k0 (by omega), shf_end P (sf + 1) k0 ps.length h0]
      exact K
    · exact absurd hc16 (by omega)
  | succ k ih =>
    intro i P' hik hi1 hP'
    have hh' : yh S P' sf := hh.keepP (fun a ha => by rw [hP']; exact cn_wq_ne ha)
    have hrow : P' (sf + 1) i = P (sf + 1) i := by rw [hP', cn_wq_row]; unfold shf; rw [if_neg (by omega)]
    refine cn_iload_n (pc' := 12) (k := 3) rfl rfl d_Sf_removeAt_11 rfl ?_
    refine cn_aload_n (pc' := 13) (k := 0) rfl rfl d_Sf_removeAt_12 rfl ?_
    refine cn_getIv (pc' := 16) (v := nI (ps.length)) hk.1 fl_Sf_18 hh'.1 rfl d_Sf_removeAt_13 rfl ?_
    refine cn_icmp_ge_n (tgt := 39) (pc' := 19) (by omega) (by omega) d_Sf_removeAt_16 (by decide) rfl (fun hc16 => ?_) (fun hc16 => ?_)
    · exact absurd hc16 (by omega)
    · refine cn_aload_n (pc' := 20) (k := 0) rfl rfl d_Sf_removeAt_19 rfl ?_
      refine cn_getP (pc' := 23) (b := (sf + 1)) hh'.2.1 fl_Sf_11 hh'.1 rfl d_Sf_removeAt_20 rfl ?_
      refine cn_iload_n (pc' := 24) (k := 3) rfl rfl d_Sf_removeAt_23 rfl ?_
      refine cn_iconst (pc' := 25) k_c_1 d_Sf_removeAt_24 rfl ?_
      refine cn_isub_n (pc' := 26) (by omega) d_Sf_removeAt_25 rfl ?_
      refine cn_aload_n (pc' := 27) (k := 0) rfl rfl d_Sf_removeAt_26 rfl ?_
      refine cn_getP (pc' := 30) (b := (sf + 1)) hh'.2.1 fl_Sf_11 hh'.1 rfl d_Sf_removeAt_27 rfl ?_
      refine cn_iload_n (pc' := 31) (k := 3) rfl rfl d_Sf_removeAt_30 rfl ?_
      refine cn_aald (pc' := 32) (b := (sf + 2 + 3 * π i)) hh'.2.2.1 (by decide) (by decide) rfl (by omega) (by decide) (hrow.trans (hk.2.2.1.2.2 i (by omega))) d_Sf_removeAt_31 rfl ?_
      refine cn_aast (pc' := 33) hh'.2.2.1 (by decide) (by decide) (hh'.2.2.2 _ (hk.2.2.1.1 _ (by omega))).1 rfl rfl (by omega) (by decide) d_Sf_removeAt_32 rfl ?_
      refine cn_iinc_n (pc' := 36) (lv' := [(0, .ref sf), (1, .int (nI (k0))), (2, .ref ((sf + 2 + 3 * π k0))), (3, .int (nI (i + 1)))]) (k := 3) [1, 2, 3, 0] rfl (Nat.le_of_ble_eq_true rfl) rfl d_Sf_removeAt_33 rfl ?_
      refine cn_goto (tgt := 11) d_Sf_removeAt_36 (by decide) ?_
      refine ih (i + 1) _ (by omega) (by omega) ?_
      rw [hP', ← hk.2.2.1.2.2 i (by omega)]
      exact shf_step P (sf + 1) k0 i (by omega)
theorem c_Sf_removeAt {k0 : Nat} (hh : yh S P sf) (hk : yk I P sf ps π) (h0 : k0 < ps.length) (K : Q none S (cn_wi I sf 1 (nI (ps.length - 1))) (cn_wq P (sf + 1) (rot (P (sf + 1)) k0 ps.length))) : cn_V l en mi_Sf_removeAt d 0 0 S I P Q 0 [(0, .ref sf), (1, .int (nI k0))] [] := by
  have hl := hk.2.1
  refine cn_aload_n (pc' := 1) (k := 0) rfl rfl d_Sf_removeAt_0 rfl ?_
  refine cn_getP (pc' := 4) (b := (sf + 1)) hh.2.1 fl_Sf_11 hh.1 rfl d_Sf_removeAt_1 rfl ?_
  refine cn_iload_n (pc' := 5) (k := 1) rfl rfl d_Sf_removeAt_4 rfl ?_
  refine cn_aald (pc' := 6) (b := (sf + 2 + 3 * π k0)) hh.2.2.1 (by decide) (by decide) rfl (by omega) (by decide) (hk.2.2.1.2.2 k0 (by omega)) d_Sf_removeAt_5 rfl ?_
  refine cn_astore_n (pc' := 7) (lv' := [(0, .ref sf), (1, .int (nI (k0))), (2, .ref ((sf + 2 + 3 * π k0)))]) rfl [1, 2, 0] (Nat.le_of_ble_eq_true rfl) rfl d_Sf_removeAt_6 rfl ?_
  refine cn_iload_n (pc' := 8) (k := 1) rfl rfl d_Sf_removeAt_7 rfl ?_
  refine cn_iconst (pc' := 9) k_c_1 d_Sf_removeAt_8 rfl ?_
  refine cn_iadd_n (pc' := 10) d_Sf_removeAt_9 rfl ?_
  refine cn_istore_n (pc' := 11) (lv' := [(0, .ref sf), (1, .int (nI (k0))), (2, .ref ((sf + 2 + 3 * π k0))), (3, .int (nI (k0 + 1)))]) rfl [1, 2, 3, 0] (Nat.le_of_ble_eq_true rfl) rfl d_Sf_removeAt_10 rfl ?_
  exact c_Sf_removeAt_loop hh hk h0 K (ps.length - (k0 + 1)) (k0 + 1) P (by omega) (by omega) (shf_start P (sf + 1) k0)
theorem c_Sf_drop {x : Int32} (hh : yh S P sf) (hk : yk I P sf ps π) (hd1 : 1 ≤ d) (K : ∀ (I' : cn_I) (P' : cn_P) (π' : Nat → Nat), yk I' P' sf (pdrop ps x) π' → I' sf 2 = I sf 2 → frs I I' sf → frP P P' (sf + 1) → Q none S I' P') : cn_V l en mi_Sf_drop d 0 0 S I P Q 0 [(0, .ref sf), (1, .int x)] [] := by
  have hl := hk.2.1
  refine cn_aload_n (pc' := 1) (k := 0) rfl rfl d_Sf_drop_0 rfl ?_
  refine cn_iload_n (pc' := 2) (k := 1) rfl rfl d_Sf_drop_1 rfl ?_
  refine cn_callV (pc' := 5) (kc1 := 0) (ks1 := 0) (kc2 := 0) (ks2 := 0) (rest := []) (lvj := [(0, .ref sf), (1, .int (x))]) [.int (x)] mv_Sf_28 hh.1 rfl rfl rfl (Nat.le_of_ble_eq_true rfl) (Nat.le_of_ble_eq_true rfl) (by omega) (by omega) (by omega) d_Sf_drop_2 rfl ?_
  refine c_Sf_find hh hk (fun k hkl hkx hkn => ?_) (fun hno => ?_)
  · show cn_V l en mi_Sf_drop d 0 0 S I P Q 5 [(0, .ref sf), (1, .int (x))] [.int (nI (k))]
    refine cn_istore_n (pc' := 6) (lv' := [(0, .ref sf), (1, .int (x)), (2, .int (nI (k)))]) rfl [1, 2, 0] (Nat.le_of_ble_eq_true rfl) rfl d_Sf_drop_5 rfl ?_
    refine cn_iload_n (pc' := 7) (k := 2) rfl rfl d_Sf_drop_6 rfl ?_
    refine cn_if_lt_n (tgt := 15) (pc' := 10) (by omega) d_Sf_drop_7 (by decide) rfl (fun hc7 => ?_) (fun hc7 => ?_)
    · exact absurd hc7 (by omega)
    · refine cn_aload_n (pc' := 11) (k := 0) rfl rfl d_Sf_drop_10 rfl ?_
      refine cn_iload_n (pc' := 12) (k := 2) rfl rfl d_Sf_drop_11 rfl ?_
      refine cn_callV (pc' := 15) (kc1 := 0) (ks1 := 0) (kc2 := 0) (ks2 := 0) (rest := []) (lvj := [(0, .ref sf), (1, .int (nI (k)))]) [.int (nI (k))] mv_Sf_32 hh.1 rfl rfl rfl (Nat.le_of_ble_eq_true rfl) (Nat.le_of_ble_eq_true rfl) (by omega) (by omega) (by omega) d_Sf_drop_12 rfl ?_
      refine c_Sf_removeAt hh hk hkl ?_
      show cn_V l en mi_Sf_drop d 0 0 S ((cn_wi I sf 1 (nI (ps.length - 1)))) ((cn_wq P (sf + 1) (rot (P (sf + 1)) k ps.length))) Q 15 [(0, .ref sf), (1, .int (x)), (2, .int (nI (k)))] []
      refine cn_vret rfl d_Sf_drop_15 ?_
      exact K _ _ _ (by rw [pdrop_some ps k hkl hkx hkn]; exact yk_erase hk hkl) (by simp [cn_wi, upd]) (fun a h => cn_wi_ne (by omega)) (fun a h => cn_wq_ne h)
  · show cn_V l en mi_Sf_drop d 0 0 S I P Q 5 [(0, .ref sf), (1, .int (x))] [.int (-1)]
    refine cn_istore_n (pc' := 6) (lv' := [(0, .ref sf), (1, .int (x)), (2, .int (-1))]) rfl [1, 2, 0] (Nat.le_of_ble_eq_true rfl) rfl d_Sf_drop_5 rfl ?_
    refine cn_iload_n (pc' := 7) (k := 2) rfl rfl d_Sf_drop_6 rfl ?_
    refine cn_if_lt (tgt := 15) (pc' := 10) d_Sf_drop_7 (by decide) rfl (fun hc7 => ?_) (fun hc7 => ?_)
    · refine cn_vret rfl d_Sf_drop_15 ?_
      exact K _ _ _ (by rw [pdrop_none ps hno]; exact hk) rfl (fun a h => rfl) (fun a h => rfl)
    · exact absurd (by decide) hc7
theorem c_Sf_keepAnother {nn : Int32} (hh : yh S P sf) (hk : yk I P sf ps π) (hn : I sf 2 = nn) (hd1 : 2 ≤ d) (K : ∀ (I' : cn_I) (P' : cn_P) (π' : Nat → Nat), yk I' P' sf ((if ps.length = 3 then ps.eraseIdx 0 else ps) ++ [(nn + nI 1, lbs (nn + nI 1).toInt64 4)]) π' → I' sf 2 = nn + nI 1 → frs I I' sf → frP P P' (sf + 1) → Q (some (.ref (sf + 2 + 3 * π' (if ps.length = 3 then ps.eraseIdx 0 else ps).length))) S I' P') : cn_V l en mi_Sf_keepAnother d 0 0 S I P Q 0 [(0, .ref sf)] [] := by
  have hl := hk.2.1
  have key : ∀ (I1 : cn_I) (P1 : cn_P) (π1 : Nat → Nat) (p1 : List sPar), yh S P1 sf → yk I1 P1 sf p1 π1 → p1.length < 3 → I1 sf 2 = nn → (∀ I', yk I' P1 sf (p1 ++ [(nn + nI 1, lbs (nn + nI 1).toInt64 4)]) π1 → I' sf 2 = nn + nI 1 → frs I1 I' sf → Q (some (.ref (sf + 2 + 3 * π1 p1.length))) S I' P1) → cn_V l en mi_Sf_keepAnother d 0 0 S I1 P1 Q 13 [(0, .ref sf)] [] := by
    intro I1 P1 π1 p1 hh hk h3 hn K
    have hπ : π1 p1.length < 3 := hk.2.2.1.1 _ h3
    obtain ⟨hN1, hN2, hN3⟩ := hh.2.2.2 _ hπ
    refine cn_aload_n (pc' := 14) (k := 0) rfl rfl d_Sf_keepAnother_13 rfl ?_
    refine cn_dup (pc' := 15) rfl d_Sf_keepAnother_14 rfl ?_
    refine cn_getIv (pc' := 18) (v := nn) hn fl_Sf_22 hh.1 rfl d_Sf_keepAnother_15 rfl ?_
    refine cn_iconst (pc' := 19) k_c_1 d_Sf_keepAnother_18 rfl ?_
    refine cn_iadd (pc' := 20) d_Sf_keepAnother_19 rfl ?_
    refine cn_putI (pc' := 23) fl_Sf_22 hh.1 rfl rfl rfl rfl d_Sf_keepAnother_20 rfl ?_
    refine cn_aload_n (pc' := 24) (k := 0) rfl rfl d_Sf_keepAnother_23 rfl ?_
    refine cn_getP (pc' := 27) (b := (sf + 1)) hh.2.1 fl_Sf_11 hh.1 rfl d_Sf_keepAnother_24 rfl ?_
    refine cn_aload_n (pc' := 28) (k := 0) rfl rfl d_Sf_keepAnother_27 rfl ?_
    refine cn_getIv (pc' := 31) (v := nI (p1.length)) (by simp [cn_wi, upd, hk.1]) fl_Sf_18 hh.1 rfl d_Sf_keepAnother_28 rfl ?_
    refine cn_aald (pc' := 32) (b := (sf + 2 + 3 * π1 p1.length)) hh.2.2.1 (by decide) (by decide) rfl (by omega) (by decide) (hk.2.2.1.2.2 _ h3) d_Sf_keepAnother_31 rfl ?_
    refine cn_astore_n (pc' := 33) (lv' := [(0, .ref sf), (1, .ref ((sf + 2 + 3 * π1 p1.length)))]) rfl [1, 0] (Nat.le_of_ble_eq_true rfl) rfl d_Sf_keepAnother_32 rfl ?_
    refine cn_aload_n (pc' := 34) (k := 1) rfl rfl d_Sf_keepAnother_33 rfl ?_
    refine cn_aload_n (pc' := 35) (k := 0) rfl rfl d_Sf_keepAnother_34 rfl ?_
    refine cn_getIv (pc' := 38) (v := nn + nI 1) (by simp [cn_wi, upd]) fl_Sf_22 hh.1 rfl d_Sf_keepAnother_35 rfl ?_
    refine cn_putI (pc' := 41) fl_Sf_25 hN1 rfl rfl rfl rfl d_Sf_keepAnother_38 rfl ?_
    refine cn_aload_n (pc' := 42) (k := 1) rfl rfl d_Sf_keepAnother_41 rfl ?_
    refine cn_getP (pc' := 45) (b := (sf + 3 + 3 * π1 p1.length)) hN2 fl_Sf_36 hN1 rfl d_Sf_keepAnother_42 rfl ?_
    refine cn_callV (pc' := 48) (kc1 := 0) (ks1 := 0) (kc2 := 0) (ks2 := 0) (rest := []) (lvj := [(0, .ref ((sf + 3 + 3 * π1 p1.length)))]) [] mv_Sf_40 hN3.1 rfl rfl rfl (Nat.le_of_ble_eq_true rfl) (Nat.le_of_ble_eq_true rfl) (by omega) (by omega) (by omega) d_Sf_keepAnother_45 rfl ?_
    refine c_By_clear (b := sf + 3 + 3 * π1 p1.length) (cap := 194) hN3 (fun I2 hy2 hf2 => ?_)
    show cn_V l en mi_Sf_keepAnother d 0 0 S I2 P1 Q 48 [(0, .ref sf), (1, .ref ((sf + 2 + 3 * π1 p1.length)))] []
    refine cn_aload_n (pc' := 49) (k := 1) rfl rfl d_Sf_keepAnother_48 rfl ?_
    refine cn_getP (pc' := 52) (b := (sf + 3 + 3 * π1 p1.length)) hN2 fl_Sf_36 hN1 rfl d_Sf_keepAnother_49 rfl ?_
    refine cn_aload_n (pc' := 53) (k := 0) rfl rfl d_Sf_keepAnother_52 rfl ?_
    refine cn_getIv (pc' := 56) (v := nn + nI 1) (by rw [hf2 sf (by omega) (by omega), cn_wi_ne (by omega)]; simp [cn_wi, upd]) fl_Sf_22 hh.1 rfl d_Sf_keepAnother_53 rfl ?_
    refine cn_i2l (pc' := 57) d_Sf_keepAnother_56 rfl ?_
    refine cn_iconst (pc' := 58) k_c_4 d_Sf_keepAnother_57 rfl ?_
    refine cn_callV (pc' := 61) (kc1 := 0) (ks1 := 0) (kc2 := 0) (ks2 := 0) (rest := []) (lvj := [(0, .ref ((sf + 3 + 3 * π1 p1.length))), (1, .long ((nn + nI 1).toInt64)), (3, .int (nI (4)))]) [.long ((nn + nI 1).toInt64), .int (nI (4))] mv_Sf_45 hN3.1 rfl rfl rfl (Nat.le_of_ble_eq_true rfl) (Nat.le_of_ble_eq_true rfl) (by omega) (by omega) (by omega) d_Sf_keepAnother_58 rfl ?_
    refine c_By_addNumber (b := sf + 3 + 3 * π1 p1.length) (cap := 194) hN3 hy2 (Nat.zero_le _) (by omega) (by omega) (fun I3 hy3 hf3 => ?_)
    rw [List.nil_append, List.take_of_length_le (by rw [lbs_len]; omega)] at hy3
    show cn_V l en mi_Sf_keepAnother d 0 0 S I3 P1 Q 61 [(0, .ref sf), (1, .ref ((sf + 2 + 3 * π1 p1.length)))] []
    refine cn_aload_n (pc' := 62) (k := 0) rfl rfl d_Sf_keepAnother_61 rfl ?_
    refine cn_dup (pc' := 63) rfl d_Sf_keepAnother_62 rfl ?_
    refine cn_getIv (pc' := 66) (v := nI (p1.length)) (by rw [hf3 sf (by omega) (by omega), hf2 sf (by omega) (by omega), cn_wi_ne (by omega)]; simp [cn_wi, upd, hk.1]) fl_Sf_18 hh.1 rfl d_Sf_keepAnother_63 rfl ?_
    refine cn_iconst (pc' := 67) k_c_1 d_Sf_keepAnother_66 rfl ?_
    refine cn_iadd_n (pc' := 68) d_Sf_keepAnother_67 rfl ?_
    refine cn_putI (pc' := 71) fl_Sf_18 hh.1 rfl rfl rfl rfl d_Sf_keepAnother_68 rfl ?_
    refine cn_aload_n (pc' := 72) (k := 1) rfl rfl d_Sf_keepAnother_71 rfl ?_
    refine cn_aret rfl d_Sf_keepAnother_72 ?_
    have hrow : ∀ a, a ≠ sf → a ≠ sf + 2 + 3 * π1 p1.length → a ≠ sf + 3 + 3 * π1 p1.length → a ≠ sf + 4 + 3 * π1 p1.length → I3 a = I1 a := fun a x1 x2 x3 x4 => by rw [hf3 a x3 (by omega), hf2 a x3 (by omega), cn_wi_ne x2, cn_wi_ne x1]
    refine K _ (yk_push hk h3 (by simp [cn_wi, upd]) ?_ (ys_cong1 hy3 (by omega) (by omega)) (by rw [lbs_len]; omega) (fun a x1 x2 x3 x4 => by rw [cn_wi_ne x1]; exact hrow a x1 x2 x3 x4)) ?_ (fun a h => by rw [cn_wi_ne (by omega)]; exact hrow a (by omega) (by omega) (by omega) (by omega))
    · rw [cn_wi_ne (by omega), hf3 _ (by omega) (by omega), hf2 _ (by omega) (by omega)]; simp [cn_wi, upd]
    · rw [cn_wi_row, show upd (I3 sf) 1 (nI (p1.length + 1)) 2 = I3 sf 2 from rfl, hf3 sf (by omega) (by omega), hf2 sf (by omega) (by omega), cn_wi_ne (by omega)]; simp [cn_wi, upd]
  refine cn_aload_n (pc' := 1) (k := 0) rfl rfl d_Sf_keepAnother_0 rfl ?_
  refine cn_getIv (pc' := 4) (v := nI (ps.length)) hk.1 fl_Sf_18 hh.1 rfl d_Sf_keepAnother_1 rfl ?_
  refine cn_iconst (pc' := 5) k_c_3 d_Sf_keepAnother_4 rfl ?_
  refine cn_icmp_ne_n (tgt := 13) (pc' := 8) (by omega) (by omega) d_Sf_keepAnother_5 (by decide) rfl (fun hc5 => ?_) (fun hc5 => ?_)
  · rw [if_neg hc5] at K
    exact key I P π ps hh hk (by omega) hn (fun I' a1 a2 a3 => K I' P π a1 a2 a3 (fun a h => rfl))
  · refine cn_aload_n (pc' := 9) (k := 0) rfl rfl d_Sf_keepAnother_8 rfl ?_
    refine cn_iconst (pc' := 10) k_c_0 d_Sf_keepAnother_9 rfl ?_
    refine cn_callV (pc' := 13) (kc1 := 0) (ks1 := 0) (kc2 := 0) (ks2 := 0) (rest := []) (lvj := [(0, .ref sf), (1, .int (nI (0)))]) [.int (nI (0))] mv_Sf_32 hh.1 rfl rfl rfl (Nat.le_of_ble_eq_true rfl) (Nat.le_of_ble_eq_true rfl) (by omega) (by omega) (by omega) d_Sf_keepAnother_10 rfl ?_
    refine c_Sf_removeAt hh hk (by omega) ?_
    show cn_V l en mi_Sf_keepAnother d 0 0 S ((cn_wi I sf 1 (nI (ps.length - 1)))) ((cn_wq P (sf + 1) (rot (P (sf + 1)) 0 ps.length))) Q 13 [(0, .ref sf)] []
    rw [if_pos hc5] at K
    have hle : (ps.eraseIdx 0).length = ps.length - 1 := List.length_eraseIdx_of_lt (by omega)
    exact key _ _ _ (ps.eraseIdx 0) (hh.keepP (fun a h => cn_wq_ne h)) (yk_erase hk (by omega)) (by omega) (by simp [cn_wi, upd, hn]) (fun I' a1 a2 a3 => K I' _ _ a1 a2 (fun a h => (a3 a h).trans (cn_wi_ne (by omega))) (fun a h => cn_wq_ne h))
end
end
section
/-- parent, type (-1: a folder), value -/
abbrev sNode : Type := Int32 × Int32 × List Int32
def nd0 : sNode := (0, 0, [])
/-- node, capacity, whether the oldest go, queue -/
abbrev sItem : Type := Nat × Nat × Bool × List sNt
def it0 : sItem := (0, 1, false, [])
/-- nodes, items, parcels and the latest number -/
abbrev sNIS : Type := List sNode × List sItem × (List sPar × Int32)
/-- these, the channel, the request and the bytes of the answer -/
abbrev sSt : Type := List sNode × List sItem × (List sPar × Int32) × sCh × (Int32 × List Int32)
def ndx (ns : List sNode) (n : Int32) : Option Nat := if n < 0 then none else if n.toNatClampNeg < ns.length then some n.toNatClampNeg else none
def isv (ns : List sNode) (k : Nat) : Bool := decide (¬ (ns.getD k nd0).2.1 = -1)
def vdx (ns : List sNode) (n : Int32) : Option Nat := match ndx ns n with
  | none => none
  | some k => if isv ns k = true then some k else none
def sp_add (ns : List sNode) (par t : Int32) : Int32 × List sNode := match ndx ns par with
  | none => (-1, ns)
  | some k => if isv ns k = true ∨ ns.length = 16 then (-1, ns) else (nI ns.length, ns ++ [(par, t, if t = -1 then [] else sv0 t)])
def isT (t : Int32) : Bool := decide (t = nI 0) || decide (t = nI 1) || decide (t = nI 6) || decide (t = nI 8) || decide (t = nI 12)
def chx (k : Nat) (u : List Int32) (x : sItem) : sItem := if x.1 = k then (x.1, x.2.1, x.2.2.1, nq x.2.1 x.2.2.1 x.2.2.2 u) else x
def chg (ns : List sNode) (xs : List sItem) (k : Nat) (u : List Int32) : Bool × List sNode × List sItem :=
  if (ns.getD k nd0).2.2 = u then (false, ns, xs) else (true, ns.set k ((ns.getD k nd0).1, (ns.getD k nd0).2.1, u), xs.map (chx k u))
def pkv (t : Int32) (v : Int64) : List Int32 := if t = nI 1 then [nI 1, if v = 0 then nI 0 else nI 1] else if t = nI 6 then nI 6 :: lbs v 4 else nI 8 :: lbs v 8
def sp_poke (ns : List sNode) (xs : List sItem) (n : Int32) (v : Int64) : Bool × List sNode × List sItem := match vdx ns n with
  | none => (false, ns, xs)
  | some k => if (ns.getD k nd0).2.1 = nI 1 ∨ (ns.getD k nd0).2.1 = nI 6 ∨ (ns.getD k nd0).2.1 = nI 8 then chg ns xs k (pkv (ns.getD k nd0).2.1 v) else (false, ns, xs)
/-- behind the name: how far, whether well formed -/
def p1 (g : List Int32) : Nat := rp g 1 (rnk g 1)
def w1 (g : List Int32) : Bool := rnw g 1 true
def whl (g : List Int32) (p : Nat) (w : Bool) : Bool := w && decide (p = g.length)
/-- the code against a name: 3, 4, or 0 and the variable -/
def vcode (ns : List sNode) (n : Int32) : Int32 := match ndx ns n with
  | none => nI 3
  | some k => if isv ns k = true then nI 0 else nI 4
def sp_read (t : sNIS) (g : List Int32) : Int32 × List Int32 × sNIS := if whl g (p1 g) (w1 g) = true then (vcode t.1 (rnm g 1), (match vdx t.1 (rnm g 1) with
    | none => []
    | some k => (t.1.getD k nd0).2.2), t) else (nI 1, [], t)
def wval (g : List Int32) : Option (List Int32 × Nat) := if w1 g = true then pv g 3 (p1 g) else none
def sp_write (t : sNIS) (g : List Int32) : Int32 × List Int32 × sNIS := match wval g with
  | none => (nI 1, [], t)
  | some a => if a.2 = g.length then (match vdx t.1 (rnm g 1) with
      | none => (vcode t.1 (rnm g 1), [], t)
      | some k => if ¬ (t.1.getD k nd0).2.1 = nI 0 ∧ ¬ (t.1.getD k nd0).2.1 = a.1.getD 0 0 then (nI 5, [], t) else (nI 0, [], (chg t.1 t.2.1 k a.1).2.1, (chg t.1 t.2.1 k a.1).2.2, t.2.2)) else (nI 1, [], t)
def kids (ns : List sNode) (k : Nat) : List Nat := (List.range ns.length).filter (fun i => decide ((ns.getD i nd0).1 = nI k))
def brw (ns : List sNode) (k : Nat) (up : Int32) : List Int32 := if up = nI 1 then (if (ns.getD k nd0).1 = -1 then [nI 0] else [nI 1, nI 0, (ns.getD k nd0).1 &&& 255]) else nI (kids ns k).length :: (kids ns k).flatMap (fun i => [nI 0, nI i])
def sp_browse (t : sNIS) (g : List Int32) : Int32 × List Int32 × sNIS := if whl g (rp g (p1 g) 1) (rw_ g (p1 g) 1 (w1 g)) = true ∧ ¬ nI 1 < g.getD (p1 g) 0 then (match ndx t.1 (rnm g 1) with
    | none => (nI 3, [], t)
    | some k => (nI 0, brw t.1 k (g.getD (p1 g) 0), t)) else (nI 1, [], t)
/-- a capacity as it is asked for -/
def capo (x : Int32) : Nat := if x < nI 1 then 1 else if nI 4 < x then 4 else x.toNatClampNeg
def sp_watch (t : sNIS) (g : List Int32) : Int32 × List Int32 × sNIS := if whl g (rp g (p1 g) 2) (rw_ g (p1 g) 2 (w1 g)) = true then (match vdx t.1 (rnm g 1) with
    | none => (vcode t.1 (rnm g 1), [], t)
    | some k => if t.2.1.length = 6 then (nI 6, [], t) else (nI 0, [nI t.2.1.length], t.1, t.2.1 ++ [(k, capo (g.getD (p1 g) 0), decide (¬ g.getD (p1 g + 1) 0 = 0), [((t.1.getD k nd0).2.2, nI 0)])], t.2.2)) else (nI 1, [], t)
def nums (g : List Int32) (p n : Nat) : List Int32 := (List.range n).map (fun i => rn4 g (p + 4 * i))
def ntot (xs : List sItem) : Nat := (xs.map (fun x => x.2.2.2.length)).sum
def ntb (i : Nat) (q : List sNt) : List Int32 := q.flatMap (fun t => nI i :: (t.1 ++ [t.2]))
/-- so many notices, from item i on: their bytes, and the items without them -/
def tkx : Nat → Nat → List sItem → List Int32 × List sItem
  | _, _, [] => ([], [])
  | i, n, x :: t => (ntb i (x.2.2.2.take n) ++ (tkx (i + 1) (n - x.2.2.2.length) t).1, (x.1, x.2.1, x.2.2.1, x.2.2.2.drop n) :: (tkx (i + 1) (n - x.2.2.2.length) t).2)
def sp_publish (t : sNIS) (g : List Int32) : Int32 × List Int32 × sNIS :=
  if nI 4 < g.getD 1 0 then (nI 1, [], t) else if whl g (rp g 2 (4 * (g.getD 1 0).toNatClampNeg)) (rw_ g 2 (4 * (g.getD 1 0).toNatClampNeg) (rw_ g 1 1 true)) = true then
    (let ps := (nums g 2 (g.getD 1 0).toNatClampNeg).foldl pdrop t.2.2.1
     if min (ntot t.2.1) 3 = 0 then (nI 7, [], t.1, t.2.1, (ps, t.2.2.2)) else
     (let n := min (ntot t.2.1) 3
      let k := t.2.2.2 + nI 1
      let c := lbs k.toInt64 4 ++ (nI n :: (tkx 0 n t.2.1).1)
      (nI 0, c, t.1, (tkx 0 n t.2.1).2, ((if ps.length = 3 then ps.eraseIdx 0 else ps) ++ [(k, c)], k)))) else (nI 1, [], t)
def sp_again (t : sNIS) (g : List Int32) : Int32 × List Int32 × sNIS := if whl g (rp g 1 4) (rw_ g 1 4 true) = true then (match t.2.2.1.find? (fun p => decide (p.1 = rn4 g 1)) with
    | none => (nI 8, [], t)
    | some p => (nI 0, p.2, t)) else (nI 1, [], t)
def sp_serve (t : sNIS) (g : List Int32) : Int32 × List Int32 × sNIS :=
  if g.length = 0 then (nI 1, [], t)
  else if g.getD 0 0 = nI 1 then sp_read t g else if g.getD 0 0 = nI 2 then sp_write t g else if g.getD 0 0 = nI 3 then sp_browse t g
  else if g.getD 0 0 = nI 4 then sp_watch t g else if g.getD 0 0 = nI 5 then sp_publish t g else if g.getD 0 0 = nI 6 then sp_again t g else (nI 2, [], t)
def sp_bad (c : sCh) (kind seq req cnt : Int32) : Bool := !c.1 || decide (kind < 0) || decide (nI 2 < kind) || decide (seq < 0) || decide (req < 0) || decide (cnt < 0) || decide (nI 8 < cnt)
def sp_chunk (s : sSt) (kind seq req : Int32) (x : Int64) (cnt : Int32) : Int32 × sSt :=
  if sp_bad s.2.2.2.1 kind seq req cnt = true then (-1, s)
  else if sp_close s.2.2.2.1 kind.toNatClampNeg seq req cnt.toNatClampNeg = true then (nI 2, s.1, s.2.1, s.2.2.1, (false, s.2.2.2.1.2.1, s.2.2.2.1.2.2.1, none, s.2.2.2.1.2.2.2.2), s.2.2.2.2)
  else (let c := sp_take s.2.2.2.1 kind.toNatClampNeg seq req x cnt.toNatClampNeg
    if ¬ kind = nI 1 then (nI 0, s.1, s.2.1, s.2.2.1, c, s.2.2.2.2)
    else (let r := sp_serve (s.1, s.2.1, s.2.2.1) c.2.2.2.2
      (nI 1, r.2.2.1, r.2.2.2.1, r.2.2.2.2, c, (req, r.1 :: r.2.1))))
def sp_open (s : sSt) : sSt := (s.1, [], ([], nI 0), (true, false, s.2.2.2.1.2.2.1, none, s.2.2.2.1.2.2.2.2), (-1, []))
-- ===== how the class keeps it =====
def wX (S : cn_S) (P : cn_P) : Prop := cn_ob S 0 8 ∧ (P 0 0 = some 1 ∧ P 0 2 = some 2 ∧ P 0 4 = some 3 ∧ P 0 5 = some 14 ∧ P 0 6 = some 18 ∧ P 0 8 = some 20 ∧ P 0 9 = some 22) ∧
  (cn_ar S 1 3 16 ∧ ∀ i, i < 16 → P 1 i = some (23 + 3 * i) ∧ yn S P (23 + 3 * i)) ∧ (cn_ar S 2 4 6 ∧ ∀ i, i < 6 → P 2 i = some (71 + 14 * i) ∧ yi S P (71 + 14 * i)) ∧
  yh S P 3 ∧ yc S P 14 ∧ yb S P 18 195 ∧ yb S P 20 61 ∧ cn_ar S 22 0 4
def rX (I : cn_I) (nn ni : Nat) (req : Int32) : Prop := I 0 1 = nI nn ∧ I 0 3 = nI ni ∧ I 0 7 = req
def rN (I : cn_I) (ns : List sNode) : Prop := ns.length ≤ 16 ∧ (∀ i, i < ns.length → I (23 + 3 * i) 0 = (ns.getD i nd0).1 ∧ I (23 + 3 * i) 1 = (ns.getD i nd0).2.1 ∧ ys I (24 + 3 * i) (ns.getD i nd0).2.2 ∧ (ns.getD i nd0).2.2.length ≤ 61) ∧ ∀ i, ns.length ≤ i → i < 16 → ys I (24 + 3 * i) []
def rIt (I : cn_I) (P : cn_P) (it : Nat) (x : sItem) : Prop := I it 1 = nI x.1 ∧ x.1 < 16 ∧ I it 2 = nI x.2.1 ∧ I it 3 = nI x.2.2.1.toNat ∧ 1 ≤ x.2.1 ∧ x.2.1 ≤ 4 ∧ x.2.2.2.length ≤ x.2.1 ∧ ∃ π, yq I P it x.2.2.2 π
def rI (I : cn_I) (P : cn_P) (xs : List sItem) : Prop := xs.length ≤ 6 ∧ (∀ i, i < 6 → ∃ π, ypm P (72 + 14 * i) (73 + 14 * i) 4 π) ∧ ∀ i, i < xs.length → rIt I P (71 + 14 * i) (xs.getD i it0)
def rS (I : cn_I) (P : cn_P) (ps : List sPar) (n : Int32) : Prop := (∃ π, yk I P 3 ps π) ∧ I 3 2 = n
def rR (I : cn_I) (u : List Int32) : Prop := ys I 18 u ∧ u.length ≤ 195
def rV (I : cn_I) : Prop := ∃ u, ys I 20 u ∧ u.length ≤ 61
def RC (S : cn_S) (I : cn_I) (P : cn_P) (s : sSt) : Prop := wX S P ∧ rX I s.1.length s.2.1.length s.2.2.2.2.1 ∧ rN I s.1 ∧ rI I P s.2.1 ∧ rS I P s.2.2.1.1 s.2.2.1.2 ∧ chs I 14 s.2.2.2.1 ∧ rR I s.2.2.2.2.2 ∧ rV I
/-- what a call of the class leaves alone: all that isn't the class's -/
def frX (I I' : cn_I) (P P' : cn_P) : Prop := ∀ a, 155 ≤ a → I' a = I a ∧ P' a = P a
theorem frX.rf {I : cn_I} {P : cn_P} : frX I I P P := fun _ _ => ⟨rfl, rfl⟩
theorem frX.tr {I I1 I2 : cn_I} {P P1 P2 : cn_P} (h1 : frX I I1 P P1) (h2 : frX I1 I2 P1 P2) : frX I I2 P P2 := fun a h => ⟨(h2 a h).1.trans (h1 a h).1, (h2 a h).2.trans (h1 a h).2⟩
theorem yb.keepP {S : cn_S} {P P' : cn_P} {b cap : Nat} (h : yb S P b cap) (hf : P' b = P b) : yb S P' b cap := ⟨h.1, by rw [hf]; exact h.2.1, h.2.2⟩
theorem wX.keepP {S : cn_S} {P P' : cn_P} (h : wX S P) (hf : ∀ a, a ≠ 4 → (∀ i, i < 6 → a ≠ 72 + 14 * i) → P' a = P a) : wX S P' := by
  obtain ⟨h1, ⟨a1, a2, a3, a4, a5, a6, a7⟩, ⟨h3, h3'⟩, ⟨h4, h4'⟩, h5, h6, h7, h8, h9⟩ := h
  have e0 : P' 0 = P 0 := hf 0 (by omega) (by omega)
  have e1 : P' 1 = P 1 := hf 1 (by omega) (by omega)
  have e2 : P' 2 = P 2 := hf 2 (by omega) (by omega)
  refine ⟨h1, ⟨by rw [e0]; exact a1, by rw [e0]; exact a2, by rw [e0]; exact a3, by rw [e0]; exact a4, by rw [e0]; exact a5, by rw [e0]; exact a6, by rw [e0]; exact a7⟩, ⟨h3, fun i hi => ?_⟩, ⟨h4, fun i hi => ?_⟩, ?_, ?_, h7.keepP (hf 18 (by omega) (by omega)), h8.keepP (hf 20 (by omega) (by omega)), h9⟩
  · obtain ⟨b1, b2, b3, b4⟩ := h3' i hi
    exact ⟨by rw [e1]; exact b1, b2, by rw [hf _ (by omega) (by omega)]; exact b3, b4.keepP (hf _ (by omega) (by omega))⟩
  · obtain ⟨b1, b2⟩ := h4' i hi
    refine ⟨by rw [e2]; exact b1, b2.1, by rw [hf _ (by omega) (by omega)]; exact b2.2.1, b2.2.2.1, fun q hq => ?_⟩
    obtain ⟨c1, c2, c3⟩ := b2.2.2.2 q hq
    exact ⟨c1, by rw [hf _ (by omega) (by omega)]; exact c2, c3.keepP (hf _ (by omega) (by omega))⟩
  · refine ⟨h5.1, by rw [hf 3 (by omega) (by omega)]; exact h5.2.1, h5.2.2.1, fun q hq => ?_⟩
    obtain ⟨c1, c2, c3⟩ := h5.2.2.2 q hq
    exact ⟨c1, by rw [hf _ (by omega) (by omega)]; exact c2, c3.keepP (hf _ (by omega) (by omega))⟩
  · exact ⟨h6.1, by rw [hf _ (by omega) (by omega)]; exact h6.2.1, h6.2.2.1, by rw [hf _ (by omega) (by omega)]; exact h6.2.2.2.1, h6.2.2.2.2.keepP (hf _ (by omega) (by omega))⟩
theorem rN.congr {I I' : cn_I} {ns : List sNode} (h : rN I ns) (hf : ∀ a, 23 ≤ a → a < 71 → I' a = I a) : rN I' ns := by
  have hl := h.1
  refine ⟨hl, fun i hi => ?_, fun i h1 h2 => (h.2.2 i h1 h2).congr (hf _ (by omega) (by omega)) (hf _ (by omega) (by omega))⟩
  obtain ⟨a1, a2, a3, a4⟩ := h.2.1 i hi
  exact ⟨by rw [hf _ (by omega) (by omega)]; exact a1, by rw [hf _ (by omega) (by omega)]; exact a2, a3.congr (hf _ (by omega) (by omega)) (hf _ (by omega) (by omega)), a4⟩
theorem yq.congr {I I' : cn_I} {P P' : cn_P} {it : Nat} {q : List sNt} {π : Nat → Nat} (h : yq I P it q π) (hf : ∀ a, it ≤ a → a < it + 14 → I' a = I a) (hP : P' (it + 1) = P (it + 1)) : yq I' P' it q π := by
  have hl := h.2.1
  refine ⟨by rw [hf it (by omega) (by omega)]; exact h.1, hl, ⟨h.2.2.1.1, h.2.2.1.2.1, fun j hj => by rw [hP]; exact h.2.2.1.2.2 j hj⟩, fun j hj => ?_⟩
  obtain ⟨a1, a2, a3⟩ := h.2.2.2 j hj
  have hπ := h.2.2.1.1 j (by omega)
  exact ⟨a1.congr (hf _ (by omega) (by omega)) (hf _ (by omega) (by omega)), a2, by rw [hf _ (by omega) (by omega)]; exact a3⟩
theorem rIt.congr {I I' : cn_I} {P P' : cn_P} {it : Nat} {x : sItem} (h : rIt I P it x) (hf : ∀ a, it ≤ a → a < it + 14 → I' a = I a) (hP : P' (it + 1) = P (it + 1)) : rIt I' P' it x := by
  obtain ⟨a1, a2, a3, a4, a5, a6, a7, π, a8⟩ := h
  have e := hf it (by omega) (by omega)
  exact ⟨by rw [e]; exact a1, a2, by rw [e]; exact a3, by rw [e]; exact a4, a5, a6, a7, π, a8.congr hf hP⟩
theorem rI.congr {I I' : cn_I} {P P' : cn_P} {xs : List sItem} (h : rI I P xs) (hf : ∀ a, 71 ≤ a → a < 155 → I' a = I a) (hP : ∀ i, i < 6 → P' (72 + 14 * i) = P (72 + 14 * i)) : rI I' P' xs := by
  have hl := h.1
  refine ⟨hl, fun i hi => ?_, fun i hi => (h.2.2 i hi).congr (fun a h1 h2 => hf a (by omega) (by omega)) (by rw [show 71 + 14 * i + 1 = 72 + 14 * i by omega]; exact hP i (by omega))⟩
  obtain ⟨π, a1, a2, a3⟩ := h.2.1 i hi
  exact ⟨π, a1, a2, fun j hj => by rw [hP i hi]; exact a3 j hj⟩
theorem yk.congr {I I' : cn_I} {P P' : cn_P} {sf : Nat} {ps : List sPar} {π : Nat → Nat} (h : yk I P sf ps π) (hf : ∀ a, sf ≤ a → a < sf + 11 → I' a = I a) (hP : P' (sf + 1) = P (sf + 1)) : yk I' P' sf ps π := by
  have hl := h.2.1
  refine ⟨by rw [hf sf (by omega) (by omega)]; exact h.1, hl, ⟨h.2.2.1.1, h.2.2.1.2.1, fun j hj => by rw [hP]; exact h.2.2.1.2.2 j hj⟩, fun j hj => ?_⟩
  obtain ⟨a1, a2, a3⟩ := h.2.2.2 j hj
  have hπ := h.2.2.1.1 j (by omega)
  exact ⟨by rw [hf _ (by omega) (by omega)]; exact a1, a2.congr (hf _ (by omega) (by omega)) (hf _ (by omega) (by omega)), a3⟩
theorem rS.congr {I I' : cn_I} {P P' : cn_P} {ps : List sPar} {n : Int32} (h : rS I P ps n) (hf : ∀ a, 3 ≤ a → a < 14 → I' a = I a) (hP : P' 4 = P 4) : rS I' P' ps n := by
  obtain ⟨⟨π, h1⟩, h2⟩ := h
  exact ⟨⟨π, h1.congr (fun a x y => hf a x (by omega)) hP⟩, by rw [hf 3 (by omega) (by omega)]; exact h2⟩
theorem chs.congr {I I' : cn_I} {h : Nat} {c : sCh} (hs : chs I h c) (e0 : I' h = I h) (e2 : I' (h + 2) = I (h + 2)) (e3 : I' (h + 3) = I (h + 3)) : chs I' h c := by
  obtain ⟨a1, a2, a3, a4, a5, a6, a7⟩ := hs
  exact ⟨by rw [e0]; exact a1, by rw [e0]; exact a2, by rw [e0]; exact a3, by rw [e0]; exact a4, fun q hq => by rw [e0]; exact a5 q hq, a6.congr e2 e3, a7⟩
theorem rR.congr {I I' : cn_I} {u : List Int32} (h : rR I u) (e0 : I' 18 = I 18) (e1 : I' 19 = I 19) : rR I' u := ⟨h.1.congr e0 e1, h.2⟩
theorem rV.congr {I I' : cn_I} (h : rV I) (e0 : I' 20 = I 20) (e1 : I' 21 = I 21) : rV I' := by
  obtain ⟨u, h1, h2⟩ := h
  exact ⟨u, h1.congr e0 e1, h2⟩
theorem rX.congr {I I' : cn_I} {a b : Nat} {r : Int32} (h : rX I a b r) (e : I' 0 = I 0) : rX I' a b r := ⟨by rw [e]; exact h.1, by rw [e]; exact h.2.1, by rw [e]; exact h.2.2⟩
end
section
theorem wX.sf {S : cn_S} {P : cn_P} (h : wX S P) : yh S P 3 := h.2.2.2.2.1
theorem wX.ch {S : cn_S} {P : cn_P} (h : wX S P) : yc S P 14 := h.2.2.2.2.2.1
theorem wX.re {S : cn_S} {P : cn_P} (h : wX S P) : yb S P 18 195 := h.2.2.2.2.2.2.1
theorem wX.ic {S : cn_S} {P : cn_P} (h : wX S P) : yb S P 20 61 := h.2.2.2.2.2.2.2.1
theorem wX.ak {S : cn_S} {P : cn_P} (h : wX S P) : cn_ar S 22 0 4 := h.2.2.2.2.2.2.2.2
theorem wX.me {S : cn_S} {P : cn_P} (h : wX S P) : ym S P 15 := h.ch.2.2
theorem wX.nd {S : cn_S} {P : cn_P} (h : wX S P) {i : Nat} (hi : i < 16) : P 1 i = some (23 + 3 * i) ∧ yn S P (23 + 3 * i) := h.2.2.1.2 i hi
theorem wX.nv {S : cn_S} {P : cn_P} (h : wX S P) {i : Nat} (hi : i < 16) : P (23 + 3 * i) 2 = some (24 + 3 * i) ∧ yb S P (24 + 3 * i) 61 := by
  obtain ⟨-, h1, h2, h3⟩ := h.nd hi
  rw [show 24 + 3 * i = 23 + 3 * i + 1 by omega]
  exact ⟨h2, h3⟩
theorem wX.it {S : cn_S} {P : cn_P} (h : wX S P) {i : Nat} (hi : i < 6) : P 2 i = some (71 + 14 * i) ∧ yi S P (71 + 14 * i) := h.2.2.2.1.2 i hi
theorem ndx_some {ns : List sNode} {j : Nat} (h : j < ns.length) (hj : j < 2 ^ 31) : ndx ns (nI j) = some j := by
  unfold ndx
  rw [if_neg (nI_pos hj), nI_clamp hj, if_pos h]
theorem ndx_ge {ns : List sNode} {j : Nat} (h : ns.length ≤ j) (hj : j < 2 ^ 31) : ndx ns (nI j) = none := by
  unfold ndx
  rw [if_neg (nI_pos hj), nI_clamp hj, if_neg (by omega)]
theorem ndx_neg {ns : List sNode} {n : Int32} (h : n < 0) : ndx ns n = none := if_pos h
theorem vdx_some {ns : List sNode} {k : Nat} (h : k < ns.length) (hk : k < 2 ^ 31) (hv : isv ns k = true) : vdx ns (nI k) = some k := by
  unfold vdx; rw [ndx_some h hk]; dsimp only; rw [if_pos hv]
theorem vdx_none {ns : List sNode} {k : Nat} (h : k < ns.length) (hk : k < 2 ^ 31) (hn : vdx ns (nI k) = none) : ¬ isv ns k = true := by
  intro hv
  rw [vdx_some h hk hv] at hn
  cases hn
theorem vcode_3 {ns : List sNode} {n : Int32} (h : ndx ns n = none) : vcode ns n = nI 3 := by unfold vcode; rw [h]
theorem vcode_0 {ns : List sNode} {k : Nat} (h : k < ns.length) (hk : k < 2 ^ 31) (hv : isv ns k = true) : vcode ns (nI k) = nI 0 := by
  unfold vcode; rw [ndx_some h hk]; dsimp only; rw [if_pos hv]
theorem vcode_4 {ns : List sNode} {k : Nat} (h : k < ns.length) (hk : k < 2 ^ 31) (hv : ¬ isv ns k = true) : vcode ns (nI k) = nI 4 := by
  unfold vcode; rw [ndx_some h hk]; dsimp only; rw [if_neg hv]
theorem nd_l {v w : List sNode} {j : Nat} (h : j < v.length) : (v ++ w).getD j nd0 = v.getD j nd0 := by
  rw [List.getD_eq_getElem?_getD, List.getD_eq_getElem?_getD, List.getElem?_append_left h]
theorem nd_last (v : List sNode) (a : sNode) : (v ++ [a]).getD v.length nd0 = a := by
  rw [List.getD_eq_getElem?_getD, List.getElem?_append_right (Nat.le_refl _), Nat.sub_self]; rfl
theorem rN_push {I I' : cn_I} {ns : List sNode} {par t : Int32} {v : List Int32} (h : rN I ns) (h16 : ns.length < 16) (h0 : I' (23 + 3 * ns.length) 0 = par) (h1 : I' (23 + 3 * ns.length) 1 = t) (hy : ys I' (24 + 3 * ns.length) v) (hv : v.length ≤ 61) (hf : ∀ a, 23 ≤ a → a < 71 → a ≠ 23 + 3 * ns.length → a ≠ 24 + 3 * ns.length → a ≠ 25 + 3 * ns.length → I' a = I a) : rN I' (ns ++ [(par, t, v)]) := by
  refine ⟨by rw [List.length_append]; exact h16, fun i hi => ?_, fun i h2 h3 => ?_⟩
  · rw [List.length_append] at hi
    have hi : i < ns.length + 1 := hi
    by_cases e : i = ns.length
    · subst e
      rw [nd_last]
      exact ⟨h0, h1, hy, hv⟩
    · have hl : i < ns.length := by omega
      rw [nd_l hl]
      obtain ⟨a1, a2, a3, a4⟩ := h.2.1 i hl
      exact ⟨by rw [hf _ (by omega) (by omega) (by omega) (by omega) (by omega)]; exact a1, by rw [hf _ (by omega) (by omega) (by omega) (by omega) (by omega)]; exact a2, a3.congr (hf _ (by omega) (by omega) (by omega) (by omega) (by omega)) (hf _ (by omega) (by omega) (by omega) (by omega) (by omega)), a4⟩
  · rw [List.length_append] at h2
    have h2 : ns.length + 1 ≤ i := h2
    exact (h.2.2 i (by omega) h3).congr (hf _ (by omega) (by omega) (by omega) (by omega) (by omega)) (hf _ (by omega) (by omega) (by omega) (by omega) (by omega))
theorem sv0_len (t : Int32) : (sv0 t).length ≤ 61 := by
  unfold sv0
  repeat' split
  all_goals simp [lbs_len]
section
variable {l : Launch} {en : cn_E} {d : Nat} {S : cn_S} {I : cn_I} {P : cn_P} {Q : Option Value → cn_S → cn_I → cn_P → Prop}
variable {ns : List sNode} {xs : List sItem}
theorem c_X_isVariableType {t : Int32} (K : Q (some (.int (nI (isT t).toNat))) S I P) : cn_V l en mi_X_isVariableType d 0 0 S I P Q 0 [(0, .int t)] [] := by
  refine cn_iload_n (pc' := 1) (k := 0) rfl rfl d_X_isVariableType_0 rfl ?_
  refine cn_if_eq (tgt := 27) (pc' := 4) d_X_isVariableType_1 (by decide) rfl (fun hc1 => ?_) (fun hc1 => ?_)
  · have hz : t = nI 0 := hc1
    refine cn_iconst (pc' := 28) k_c_1 d_X_isVariableType_27 rfl ?_
    refine cn_goto (tgt := 32) d_X_isVariableType_28 (by decide) ?_
    refine cn_zret rfl (Or.inr rfl) d_X_isVariableType_32 ?_
    have e : (isT t).toNat = 1 := by unfold isT; simp [hz]
    rw [e] at K; exact K
  · have hz : ¬ t = nI 0 := hc1
    refine cn_iload_n (pc' := 5) (k := 0) rfl rfl d_X_isVariableType_4 rfl ?_
    refine cn_iconst (pc' := 6) k_c_1 d_X_isVariableType_5 rfl ?_
    refine cn_icmp_eq (tgt := 27) (pc' := 9) d_X_isVariableType_6 (by decide) rfl (fun hc6 => ?_) (fun hc6 => ?_)
    · refine cn_iconst (pc' := 28) k_c_1 d_X_isVariableType_27 rfl ?_
      refine cn_goto (tgt := 32) d_X_isVariableType_28 (by decide) ?_
      refine cn_zret rfl (Or.inr rfl) d_X_isVariableType_32 ?_
      have e : (isT t).toNat = 1 := by unfold isT; simp [hz, hc6]
      rw [e] at K; exact K
    · refine cn_iload_n (pc' := 10) (k := 0) rfl rfl d_X_isVariableType_9 rfl ?_
      refine cn_bipush (pc' := 12) k_b_6 d_X_isVariableType_10 rfl ?_
      refine cn_icmp_eq (tgt := 27) (pc' := 15) d_X_isVariableType_12 (by decide) rfl (fun hc12 => ?_) (fun hc12 => ?_)
      · refine cn_iconst (pc' := 28) k_c_1 d_X_isVariableType_27 rfl ?_
        refine cn_goto (tgt := 32) d_X_isVariableType_28 (by decide) ?_
        refine cn_zret rfl (Or.inr rfl) d_X_isVariableType_32 ?_
        have e : (isT t).toNat = 1 := by unfold isT; simp [hz, hc6, hc12]
        rw [e] at K; exact K
      · refine cn_iload_n (pc' := 16) (k := 0) rfl rfl d_X_isVariableType_15 rfl ?_
        refine cn_bipush (pc' := 18) k_b_8 d_X_isVariableType_16 rfl ?_
        refine cn_icmp_eq (tgt := 27) (pc' := 21) d_X_isVariableType_18 (by decide) rfl (fun hc18 => ?_) (fun hc18 => ?_)
        · refine cn_iconst (pc' := 28) k_c_1 d_X_isVariableType_27 rfl ?_
          refine cn_goto (tgt := 32) d_X_isVariableType_28 (by decide) ?_
          refine cn_zret rfl (Or.inr rfl) d_X_isVariableType_32 ?_
          have e : (isT t).toNat = 1 := by unfold isT; simp [hz, hc6, hc12, hc18]
          rw [e] at K; exact K
        · refine cn_iload_n (pc' := 22) (k := 0) rfl rfl d_X_isVariableType_21 rfl ?_
          refine cn_bipush (pc' := 24) k_b_12 d_X_isVariableType_22 rfl ?_
          refine cn_icmp_ne (tgt := 31) (pc' := 27) d_X_isVariableType_24 (by decide) rfl (fun hc24 => ?_) (fun hc24 => ?_)
          · refine cn_iconst (pc' := 32) k_c_0 d_X_isVariableType_31 rfl ?_
            refine cn_zret rfl (Or.inl rfl) d_X_isVariableType_32 ?_
            have e : (isT t).toNat = 0 := by unfold isT; simp [hz, hc6, hc12, hc18, hc24]
            rw [e] at K; exact K
          · refine cn_iconst (pc' := 28) k_c_1 d_X_isVariableType_27 rfl ?_
            refine cn_goto (tgt := 32) d_X_isVariableType_28 (by decide) ?_
            refine cn_zret rfl (Or.inr rfl) d_X_isVariableType_32 ?_
            have e : (isT t).toNat = 1 := by unfold isT; simp [hz, hc6, hc12, hc18, hc24]
            rw [e] at K; exact K
theorem c_X_isNode {n : Int32} (hw : wX S P) (h01 : I 0 1 = nI ns.length) (hl : ns.length ≤ 16) (K1 : ∀ k, n = nI k → k < ns.length → Q (some (.int (nI 1))) S I P) (K0 : ndx ns n = none → Q (some (.int (nI 0))) S I P) : cn_V l en mi_X_isNode d 0 0 S I P Q 0 [(0, .ref 0), (1, .int n)] [] := by
  refine cn_iload_n (pc' := 1) (k := 1) rfl rfl d_X_isNode_0 rfl ?_
  refine cn_if_lt (tgt := 16) (pc' := 4) d_X_isNode_1 (by decide) rfl (fun hc1 => ?_) (fun hc1 => ?_)
  · refine cn_iconst (pc' := 17) k_c_0 d_X_isNode_16 rfl ?_
    refine cn_zret rfl (Or.inl rfl) d_X_isNode_17 ?_
    exact K0 (ndx_neg hc1)
  · obtain ⟨j, hj, rfl⟩ := nI_of hc1
    refine cn_iload_n (pc' := 5) (k := 1) rfl rfl d_X_isNode_4 rfl ?_
    refine cn_aload_n (pc' := 6) (k := 0) rfl rfl d_X_isNode_5 rfl ?_
    refine cn_getIv (pc' := 9) (v := nI (ns.length)) h01 fl_X_57 hw.1 rfl d_X_isNode_6 rfl ?_
    refine cn_icmp_ge_n (tgt := 16) (pc' := 12) (by omega) (by omega) d_X_isNode_9 (by decide) rfl (fun hc9 => ?_) (fun hc9 => ?_)
    · refine cn_iconst (pc' := 17) k_c_0 d_X_isNode_16 rfl ?_
      refine cn_zret rfl (Or.inl rfl) d_X_isNode_17 ?_
      exact K0 (ndx_ge (by omega) hj)
    · refine cn_iconst (pc' := 13) k_c_1 d_X_isNode_12 rfl ?_
      refine cn_goto (tgt := 17) d_X_isNode_13 (by decide) ?_
      refine cn_zret rfl (Or.inr rfl) d_X_isNode_17 ?_
      exact K1 j rfl (by omega)
theorem c_X_isVariable {n : Int32} (hw : wX S P) (h01 : I 0 1 = nI ns.length) (hN : rN I ns) (hd1 : 1 ≤ d) (K1 : ∀ k, n = nI k → k < ns.length → isv ns k = true → Q (some (.int (nI 1))) S I P) (K0 : vdx ns n = none → Q (some (.int (nI 0))) S I P) : cn_V l en mi_X_isVariable d 0 0 S I P Q 0 [(0, .ref 0), (1, .int n)] [] := by
  have hl := hN.1
  refine cn_aload_n (pc' := 1) (k := 0) rfl rfl d_X_isVariable_0 rfl ?_
  refine cn_iload_n (pc' := 2) (k := 1) rfl rfl d_X_isVariable_1 rfl ?_
  refine cn_callV (pc' := 5) (kc1 := 0) (ks1 := 0) (kc2 := 0) (ks2 := 0) (rest := []) (lvj := [(0, .ref 0), (1, .int (n))]) [.int (n)] mv_X_157 hw.1 rfl rfl rfl (Nat.le_of_ble_eq_true rfl) (Nat.le_of_ble_eq_true rfl) (by omega) (by omega) (by omega) d_X_isVariable_2 rfl ?_
  refine c_X_isNode (ns := ns) hw h01 (by omega) (fun k hnk hkl => ?_) (fun hno => ?_)
  · subst hnk
    show cn_V l en mi_X_isVariable d 0 0 S I P Q 5 [(0, .ref 0), (1, .int (nI (k)))] [.int (nI (1))]
    refine cn_if_eq_n (tgt := 25) (pc' := 8) (by omega) d_X_isVariable_5 (by decide) rfl (fun hc5 => ?_) (fun hc5 => ?_)
    · exact False.elim (by omega)
    · refine cn_aload_n (pc' := 9) (k := 0) rfl rfl d_X_isVariable_8 rfl ?_
      refine cn_getP (pc' := 12) (b := 1) hw.2.1.1 fl_X_11 hw.1 rfl d_X_isVariable_9 rfl ?_
      refine cn_iload_n (pc' := 13) (k := 1) rfl rfl d_X_isVariable_12 rfl ?_
      refine cn_aald (pc' := 14) (b := (23 + 3 * k)) hw.2.2.1.1 (by decide) (by decide) rfl (by omega) (by decide) (hw.nd (i := k) (by omega)).1 d_X_isVariable_13 rfl ?_
      refine cn_getIv (pc' := 17) (v := (ns.getD k nd0).2.1) (hN.2.1 k (by omega)).2.1 fl_X_89 (hw.nd (i := k) (by omega)).2.1 rfl d_X_isVariable_14 rfl ?_
      refine cn_iconst (pc' := 18) k_c_m1 d_X_isVariable_17 rfl ?_
      refine cn_icmp_eq (tgt := 25) (pc' := 21) d_X_isVariable_18 (by decide) rfl (fun hc18 => ?_) (fun hc18 => ?_)
      · refine cn_iconst (pc' := 26) k_c_0 d_X_isVariable_25 rfl ?_
        refine cn_zret rfl (Or.inl rfl) d_X_isVariable_26 ?_
        exact K0 (by unfold vdx; rw [ndx_some hkl (by omega)]; dsimp only; rw [if_neg (by unfold isv; rw [decide_eq_false (fun h => h hc18)]; decide)])
      · refine cn_iconst (pc' := 22) k_c_1 d_X_isVariable_21 rfl ?_
        refine cn_goto (tgt := 26) d_X_isVariable_22 (by decide) ?_
        refine cn_zret rfl (Or.inr rfl) d_X_isVariable_26 ?_
        exact K1 k rfl hkl (by unfold isv; exact decide_eq_true hc18)
  · show cn_V l en mi_X_isVariable d 0 0 S I P Q 5 [(0, .ref 0), (1, .int (n))] [.int (nI (0))]
    refine cn_if_eq_n (tgt := 25) (pc' := 8) (by omega) d_X_isVariable_5 (by decide) rfl (fun hc5 => ?_) (fun hc5 => ?_)
    · refine cn_iconst (pc' := 26) k_c_0 d_X_isVariable_25 rfl ?_
      refine cn_zret rfl (Or.inl rfl) d_X_isVariable_26 ?_
      exact K0 (by unfold vdx; rw [hno])
    · exact False.elim (by omega)
theorem c_X_checkVariable {n : Int32} (hw : wX S P) (h01 : I 0 1 = nI ns.length) (hN : rN I ns) (hd1 : 2 ≤ d) (K : Q (some (.int (vcode ns n))) S I P) : cn_V l en mi_X_checkVariable d 0 0 S I P Q 0 [(0, .ref 0), (1, .int n)] [] := by
  have hl := hN.1
  refine cn_aload_n (pc' := 1) (k := 0) rfl rfl d_X_checkVariable_0 rfl ?_
  refine cn_iload_n (pc' := 2) (k := 1) rfl rfl d_X_checkVariable_1 rfl ?_
  refine cn_callV (pc' := 5) (kc1 := 0) (ks1 := 0) (kc2 := 0) (ks2 := 0) (rest := []) (lvj := [(0, .ref 0), (1, .int (n))]) [.int (n)] mv_X_157 hw.1 rfl rfl rfl (Nat.le_of_ble_eq_true rfl) (Nat.le_of_ble_eq_true rfl) (by omega) (by omega) (by omega) d_X_checkVariable_2 rfl ?_
  refine c_X_isNode (ns := ns) hw h01 (by omega) (fun k hnk hkl => ?_) (fun hno => ?_)
  · subst hnk
    show cn_V l en mi_X_checkVariable d 0 0 S I P Q 5 [(0, .ref 0), (1, .int (nI (k)))] [.int (nI (1))]
    refine cn_if_ne_n (tgt := 10) (pc' := 8) (by omega) d_X_checkVariable_5 (by decide) rfl (fun hc5 => ?_) (fun hc5 => ?_)
    · refine cn_aload_n (pc' := 11) (k := 0) rfl rfl d_X_checkVariable_10 rfl ?_
      refine cn_iload_n (pc' := 12) (k := 1) rfl rfl d_X_checkVariable_11 rfl ?_
      refine cn_callV (pc' := 15) (kc1 := 0) (ks1 := 0) (kc2 := 0) (ks2 := 0) (rest := []) (lvj := [(0, .ref 0), (1, .int (nI (k)))]) [.int (nI (k))] mv_X_86 hw.1 rfl rfl rfl (Nat.le_of_ble_eq_true rfl) (Nat.le_of_ble_eq_true rfl) (by omega) (by omega) (by omega) d_X_checkVariable_12 rfl ?_
      refine c_X_isVariable (ns := ns) hw h01 hN (by omega) (fun k2 hnk2 hkl2 hv => ?_) (fun hnv => ?_)
      · have hk2 : k = k2 := (nI_eq (by omega) (by omega)).mp hnk2
        subst hk2
        show cn_V l en mi_X_checkVariable d 0 0 S I P Q 15 [(0, .ref 0), (1, .int (nI (k)))] [.int (nI (1))]
        refine cn_if_eq_n (tgt := 22) (pc' := 18) (by omega) d_X_checkVariable_15 (by decide) rfl (fun hc15 => ?_) (fun hc15 => ?_)
        · exact False.elim (by omega)
        · refine cn_iconst (pc' := 19) k_c_0 d_X_checkVariable_18 rfl ?_
          refine cn_goto (tgt := 23) d_X_checkVariable_19 (by decide) ?_
          refine cn_iret rfl d_X_checkVariable_23 ?_
          rw [vcode_0 hkl (by omega) hv] at K
          exact K
      · show cn_V l en mi_X_checkVariable d 0 0 S I P Q 15 [(0, .ref 0), (1, .int (nI (k)))] [.int (nI (0))]
        refine cn_if_eq_n (tgt := 22) (pc' := 18) (by omega) d_X_checkVariable_15 (by decide) rfl (fun hc15 => ?_) (fun hc15 => ?_)
        · refine cn_iconst (pc' := 23) k_c_4 d_X_checkVariable_22 rfl ?_
          refine cn_iret rfl d_X_checkVariable_23 ?_
          rw [vcode_4 hkl (by omega) (vdx_none hkl (by omega) hnv)] at K
          exact K
        · exact False.elim (by omega)
    · exact False.elim (by omega)
  · show cn_V l en mi_X_checkVariable d 0 0 S I P Q 5 [(0, .ref 0), (1, .int (n))] [.int (nI (0))]
    refine cn_if_ne_n (tgt := 10) (pc' := 8) (by omega) d_X_checkVariable_5 (by decide) rfl (fun hc5 => ?_) (fun hc5 => ?_)
    · exact False.elim (by omega)
    · refine cn_iconst (pc' := 9) k_c_3 d_X_checkVariable_8 rfl ?_
      refine cn_iret rfl d_X_checkVariable_9 ?_
      rw [vcode_3 hno] at K
      exact K
theorem c_X_addNode {n t : Int32} (hw : wX S P) (h01 : I 0 1 = nI ns.length) (hN : rN I ns) (ht : t = -1 ∨ isT t = true) (hd1 : 3 ≤ d) (K : ∀ I', rN I' (sp_add ns n t).2 → I' 0 1 = nI (sp_add ns n t).2.length → (∀ k, k ≠ 1 → I' 0 k = I 0 k) → (∀ a, a ≠ 0 → (a < 23 ∨ 71 ≤ a) → I' a = I a) → Q (some (.int (sp_add ns n t).1)) S I' P) : cn_V l en mi_X_addNode d 0 0 S I P Q 0 [(0, .ref 0), (1, .int n), (2, .int t)] [] := by
  have hl := hN.1
  refine cn_aload_n (pc' := 1) (k := 0) rfl rfl d_X_addNode_0 rfl ?_
  refine cn_iload_n (pc' := 2) (k := 1) rfl rfl d_X_addNode_1 rfl ?_
  refine cn_callV (pc' := 5) (kc1 := 0) (ks1 := 0) (kc2 := 0) (ks2 := 0) (rest := []) (lvj := [(0, .ref 0), (1, .int (n))]) [.int (n)] mv_X_157 hw.1 rfl rfl rfl (Nat.le_of_ble_eq_true rfl) (Nat.le_of_ble_eq_true rfl) (by omega) (by omega) (by omega) d_X_addNode_2 rfl ?_
  refine c_X_isNode (ns := ns) hw h01 (by omega) (fun k hnk hkl => ?_) (fun hno => ?_)
  · subst hnk
    show cn_V l en mi_X_addNode d 0 0 S I P Q 5 [(0, .ref 0), (1, .int (nI (k))), (2, .int (t))] [.int (nI (1))]
    refine cn_if_eq_n (tgt := 25) (pc' := 8) (by omega) d_X_addNode_5 (by decide) rfl (fun hc5 => ?_) (fun hc5 => ?_)
    · exact False.elim (by omega)
    · refine cn_aload_n (pc' := 9) (k := 0) rfl rfl d_X_addNode_8 rfl ?_
      refine cn_iload_n (pc' := 10) (k := 1) rfl rfl d_X_addNode_9 rfl ?_
      refine cn_callV (pc' := 13) (kc1 := 0) (ks1 := 0) (kc2 := 0) (ks2 := 0) (rest := []) (lvj := [(0, .ref 0), (1, .int (nI (k)))]) [.int (nI (k))] mv_X_86 hw.1 rfl rfl rfl (Nat.le_of_ble_eq_true rfl) (Nat.le_of_ble_eq_true rfl) (by omega) (by omega) (by omega) d_X_addNode_10 rfl ?_
      refine c_X_isVariable (ns := ns) hw h01 hN (by omega) (fun k2 hnk2 hkl2 hv => ?_) (fun hnv => ?_)
      · have hk2 : k = k2 := (nI_eq (by omega) (by omega)).mp hnk2
        subst hk2
        show cn_V l en mi_X_addNode d 0 0 S I P Q 13 [(0, .ref 0), (1, .int (nI (k))), (2, .int (t))] [.int (nI (1))]
        refine cn_if_ne_n (tgt := 25) (pc' := 16) (by omega) d_X_addNode_13 (by decide) rfl (fun hc13 => ?_) (fun hc13 => ?_)
        · refine cn_iconst (pc' := 26) k_c_m1 d_X_addNode_25 rfl ?_
          refine cn_iret rfl d_X_addNode_26 ?_
          have e : sp_add ns (nI (k)) t = (-1, ns) := by
            unfold sp_add
            rw [ndx_some hkl (by omega)]; dsimp only; rw [if_pos (Or.inl hv)]
          rw [e] at K
          exact K I hN h01 (fun _ _ => rfl) (fun _ _ _ => rfl)
        · exact False.elim (by omega)
      · show cn_V l en mi_X_addNode d 0 0 S I P Q 13 [(0, .ref 0), (1, .int (nI (k))), (2, .int (t))] [.int (nI (0))]
        refine cn_if_ne_n (tgt := 25) (pc' := 16) (by omega) d_X_addNode_13 (by decide) rfl (fun hc13 => ?_) (fun hc13 => ?_)
        · exact False.elim (by omega)
        · refine cn_aload_n (pc' := 17) (k := 0) rfl rfl d_X_addNode_16 rfl ?_
          refine cn_getIv (pc' := 20) (v := nI (ns.length)) h01 fl_X_57 hw.1 rfl d_X_addNode_17 rfl ?_
          refine cn_bipush (pc' := 22) k_b_16 d_X_addNode_20 rfl ?_
          refine cn_icmp_ne_n (tgt := 27) (pc' := 25) (by omega) (by omega) d_X_addNode_22 (by decide) rfl (fun hc22 => ?_) (fun hc22 => ?_)
          · refine cn_aload_n (pc' := 28) (k := 0) rfl rfl d_X_addNode_27 rfl ?_
            refine cn_getP (pc' := 31) (b := 1) hw.2.1.1 fl_X_11 hw.1 rfl d_X_addNode_28 rfl ?_
            refine cn_aload_n (pc' := 32) (k := 0) rfl rfl d_X_addNode_31 rfl ?_
            refine cn_getIv (pc' := 35) (v := nI (ns.length)) h01 fl_X_57 hw.1 rfl d_X_addNode_32 rfl ?_
            refine cn_aald (pc' := 36) (b := (23 + 3 * ns.length)) hw.2.2.1.1 (by decide) (by decide) rfl (by omega) (by decide) (hw.nd (i := ns.length) (by omega)).1 d_X_addNode_35 rfl ?_
            refine cn_iload_n (pc' := 37) (k := 1) rfl rfl d_X_addNode_36 rfl ?_
            refine cn_iload_n (pc' := 38) (k := 2) rfl rfl d_X_addNode_37 rfl ?_
            refine cn_callV (pc' := 41) (kc1 := 0) (ks1 := 0) (kc2 := 0) (ks2 := 0) (rest := []) (lvj := [(0, .ref ((23 + 3 * ns.length))), (1, .int (nI (k))), (2, .int (t))]) [.int (nI (k)), .int (t)] mv_X_53 (hw.nd (i := ns.length) (by omega)).2.1 rfl rfl rfl (Nat.le_of_ble_eq_true rfl) (Nat.le_of_ble_eq_true rfl) (by omega) (by omega) (by omega) d_X_addNode_38 rfl ?_
            by_cases htf : t = -1
            · subst htf
              refine c_No_become_f (hw.nd (by omega)).2 ?_
              show cn_V l en mi_X_addNode d 0 0 S ((cn_wi (cn_wi I (23 + 3 * ns.length) 0 (nI k)) (23 + 3 * ns.length) 1 (-1))) P Q 41 [(0, .ref 0), (1, .int (nI (k))), (2, .int (-1))] []
              refine cn_aload_n (pc' := 42) (k := 0) rfl rfl d_X_addNode_41 rfl ?_
              refine cn_dup (pc' := 43) rfl d_X_addNode_42 rfl ?_
              refine cn_getIv (pc' := 46) (v := nI (ns.length)) (by rw [cn_wi_ne (by omega), cn_wi_ne (by omega)]; exact h01) fl_X_57 hw.1 rfl d_X_addNode_43 rfl ?_
              refine cn_iconst (pc' := 47) k_c_1 d_X_addNode_46 rfl ?_
              refine cn_iadd_n (pc' := 48) d_X_addNode_47 rfl ?_
              refine cn_putI (pc' := 51) fl_X_57 hw.1 rfl rfl rfl rfl d_X_addNode_48 rfl ?_
              refine cn_aload_n (pc' := 52) (k := 0) rfl rfl d_X_addNode_51 rfl ?_
              refine cn_getIv (pc' := 55) (v := nI (ns.length + 1)) (by simp [cn_wi, upd]) fl_X_57 hw.1 rfl d_X_addNode_52 rfl ?_
              refine cn_iconst (pc' := 56) k_c_1 d_X_addNode_55 rfl ?_
              refine cn_isub_n (pc' := 57) (by omega) d_X_addNode_56 rfl ?_
              refine cn_iret rfl d_X_addNode_57 ?_
              have hnv2 := vdx_none hkl (by omega) hnv
              have e : sp_add ns (nI k) (-1) = (nI ns.length, ns ++ [(nI k, -1, [])]) := by
                unfold sp_add; rw [ndx_some hkl (by omega)]; dsimp only; rw [if_neg (fun h => h.elim hnv2 hc22), if_pos rfl]
              rw [e, show nI ns.length = nI (ns.length + 1 - 1) by rw [Nat.add_sub_cancel]] at K
              refine K _ (rN_push hN (by omega) (by rw [cn_wi_ne (by omega)]; simp [cn_wi, upd]) (by rw [cn_wi_ne (by omega)]; simp [cn_wi, upd]) (ys_cong1 (ys_cong1 (ys_cong1 (hN.2.2 _ (Nat.le_refl _) (by omega)) (by omega) (by omega)) (by omega) (by omega)) (by omega) (by omega)) (Nat.zero_le _) (fun a x1 x2 x3 x4 x5 => by rw [cn_wi_ne (by omega), cn_wi_ne (by omega), cn_wi_ne (by omega)])) (by rw [List.length_append]; simp [cn_wi, upd]) (fun q hq => by rw [cn_wi_row, show upd _ 1 _ q = _ from if_neg hq, cn_wi_ne (by omega), cn_wi_ne (by omega)]) (fun a x1 x2 => by rw [cn_wi_ne x1, cn_wi_ne (by omega), cn_wi_ne (by omega)])
            · have htt := ht.resolve_left htf
              have ht5 : t = nI 0 ∨ t = nI 1 ∨ t = nI 6 ∨ t = nI 8 ∨ t = nI 12 := by unfold isT at htt; simpa [or_assoc] using htt
              refine c_No_become_v (hw.nd (i := ns.length) (by omega)).2 ht5 (by rw [show 23 + 3 * ns.length + 1 = 24 + 3 * ns.length by omega]; exact hN.2.2 _ (Nat.le_refl _) (by omega)) (by omega) (fun I1 hy1 hp1 ht1 hf1 => ?_)
              show cn_V l en mi_X_addNode d 0 0 S I1 P Q 41 [(0, .ref 0), (1, .int (nI (k))), (2, .int (t))] []
              refine cn_aload_n (pc' := 42) (k := 0) rfl rfl d_X_addNode_41 rfl ?_
              refine cn_dup (pc' := 43) rfl d_X_addNode_42 rfl ?_
              refine cn_getIv (pc' := 46) (v := nI (ns.length)) (by rw [hf1 0 (by omega) (by omega) (by omega)]; exact h01) fl_X_57 hw.1 rfl d_X_addNode_43 rfl ?_
              refine cn_iconst (pc' := 47) k_c_1 d_X_addNode_46 rfl ?_
              refine cn_iadd_n (pc' := 48) d_X_addNode_47 rfl ?_
              refine cn_putI (pc' := 51) fl_X_57 hw.1 rfl rfl rfl rfl d_X_addNode_48 rfl ?_
              refine cn_aload_n (pc' := 52) (k := 0) rfl rfl d_X_addNode_51 rfl ?_
              refine cn_getIv (pc' := 55) (v := nI (ns.length + 1)) (by simp [cn_wi, upd]) fl_X_57 hw.1 rfl d_X_addNode_52 rfl ?_
              refine cn_iconst (pc' := 56) k_c_1 d_X_addNode_55 rfl ?_
              refine cn_isub_n (pc' := 57) (by omega) d_X_addNode_56 rfl ?_
              refine cn_iret rfl d_X_addNode_57 ?_
              have hnv2 := vdx_none hkl (by omega) hnv
              have e : sp_add ns (nI k) t = (nI ns.length, ns ++ [(nI k, t, sv0 t)]) := by
                unfold sp_add; rw [ndx_some hkl (by omega)]; dsimp only; rw [if_neg (fun h => h.elim hnv2 hc22), if_neg htf]
              rw [e, show nI ns.length = nI (ns.length + 1 - 1) by rw [Nat.add_sub_cancel]] at K
              rw [show 23 + 3 * ns.length + 1 = 24 + 3 * ns.length by omega] at hy1
              refine K _ (rN_push hN (by omega) (by rw [cn_wi_ne (by omega)]; exact hp1) (by rw [cn_wi_ne (by omega)]; exact ht1) (ys_cong1 hy1 (by omega) (by omega)) (sv0_len t) (fun a x1 x2 x3 x4 x5 => by rw [cn_wi_ne (by omega)]; exact hf1 a (by omega) (by omega) (by omega))) (by rw [List.length_append]; simp [cn_wi, upd]) (fun q hq => by rw [cn_wi_row, show upd _ 1 _ q = _ from if_neg hq]; rw [hf1 0 (by omega) (by omega) (by omega)]) (fun a x1 x2 => by rw [cn_wi_ne x1]; exact hf1 a (by omega) (by omega) (by omega))
          · refine cn_iconst (pc' := 26) k_c_m1 d_X_addNode_25 rfl ?_
            refine cn_iret rfl d_X_addNode_26 ?_
            have e : sp_add ns (nI (k)) t = (-1, ns) := by
              unfold sp_add
              rw [ndx_some hkl (by omega)]; dsimp only; rw [if_pos (Or.inr hc22)]
            rw [e] at K
            exact K I hN h01 (fun _ _ => rfl) (fun _ _ _ => rfl)
  · show cn_V l en mi_X_addNode d 0 0 S I P Q 5 [(0, .ref 0), (1, .int (n)), (2, .int (t))] [.int (nI (0))]
    refine cn_if_eq_n (tgt := 25) (pc' := 8) (by omega) d_X_addNode_5 (by decide) rfl (fun hc5 => ?_) (fun hc5 => ?_)
    · refine cn_iconst (pc' := 26) k_c_m1 d_X_addNode_25 rfl ?_
      refine cn_iret rfl d_X_addNode_26 ?_
      have e : sp_add ns n t = (-1, ns) := by
        unfold sp_add
        rw [hno]
      rw [e] at K
      exact K I hN h01 (fun _ _ => rfl) (fun _ _ _ => rfl)
    · exact False.elim (by omega)
end
end
section
theorem it_map (f : sItem → sItem) (xs : List sItem) {j : Nat} (h : j < xs.length) : (xs.map f).getD j it0 = f (xs.getD j it0) := by
  rw [List.getD_eq_getElem?_getD, List.getD_eq_getElem?_getD, List.getElem?_map, List.getElem?_eq_getElem h]; rfl
theorem nd_set (ns : List sNode) (k j : Nat) (a : sNode) (hk : k < ns.length) : (ns.set k a).getD j nd0 = if j = k then a else ns.getD j nd0 := by
  rw [List.getD_eq_getElem?_getD, List.getElem?_set]
  by_cases h : k = j
  · subst h
    rw [if_pos rfl, if_pos hk, if_pos rfl]; rfl
  · rw [if_neg h, if_neg (fun e => h e.symm), List.getD_eq_getElem?_getD]
theorem rN_set {I I' : cn_I} {ns : List sNode} {k : Nat} {u : List Int32} (h : rN I ns) (hk : k < ns.length) (hy : ys I' (24 + 3 * k) u) (hu : u.length ≤ 61) (hf : ∀ a, 23 ≤ a → a < 71 → a ≠ 24 + 3 * k → a ≠ 25 + 3 * k → I' a = I a) : rN I' (ns.set k ((ns.getD k nd0).1, (ns.getD k nd0).2.1, u)) := by
  have hl := h.1
  refine ⟨by rw [List.length_set]; exact hl, fun i hi => ?_, fun i h1 h2 => ?_⟩
  · rw [List.length_set] at hi
    obtain ⟨a1, a2, a3, a4⟩ := h.2.1 i hi
    rw [nd_set ns k i _ hk]
    by_cases e : i = k
    · subst e
      rw [if_pos rfl]
      exact ⟨by rw [hf _ (by omega) (by omega) (by omega) (by omega)]; exact a1, by rw [hf _ (by omega) (by omega) (by omega) (by omega)]; exact a2, hy, hu⟩
    · rw [if_neg e]
      exact ⟨by rw [hf _ (by omega) (by omega) (by omega) (by omega)]; exact a1, by rw [hf _ (by omega) (by omega) (by omega) (by omega)]; exact a2, a3.congr (hf _ (by omega) (by omega) (by omega) (by omega)) (hf _ (by omega) (by omega) (by omega) (by omega)), a4⟩
  · rw [List.length_set] at h1
    exact (h.2.2 i h1 h2).congr (hf _ (by omega) (by omega) (by omega) (by omega)) (hf _ (by omega) (by omega) (by omega) (by omega))
section
variable {l : Launch} {en : cn_E} {d : Nat} {S : cn_S} {I : cn_I} {P : cn_P} {Q : Option Value → cn_S → cn_I → cn_P → Prop}
variable {ns : List sNode} {xs : List sItem}
theorem c_X_changeValue_loop {k : Nat} {u : List Int32} (hk : k < 16) (hxs : xs.length ≤ 6) (hu : u.length ≤ 61) (hd1 : 4 ≤ d) (I0 : cn_I) (P0 : cn_P) (K : ∀ (I' : cn_I) (P' : cn_P), wX S P' → (∀ i, i < 6 → ∃ π, ypm P' (72 + 14 * i) (73 + 14 * i) 4 π) → (∀ j, j < xs.length → rIt I' P' (71 + 14 * j) (chx k u (xs.getD j it0))) → (∀ a, a < 71 ∨ 155 ≤ a → I' a = I0 a) → (∀ a, (∀ i, i < 6 → a ≠ 72 + 14 * i) → P' a = P0 a) → Q (some (.int (nI 1))) S I' P') :
    ∀ (r i : Nat) (I : cn_I) (P : cn_P), i + r = xs.length → wX S P → I 0 3 = nI xs.length → ys I (24 + 3 * k) u → (∀ i, i < 6 → ∃ π, ypm P (72 + 14 * i) (73 + 14 * i) 4 π) → (∀ j, j < xs.length → rIt I P (71 + 14 * j) (if j < i then chx k u (xs.getD j it0) else xs.getD j it0)) → (∀ a, a < 71 ∨ 155 ≤ a → I a = I0 a) → (∀ a, (∀ i, i < 6 → a ≠ 72 + 14 * i) → P a = P0 a) →
      cn_V l en mi_X_changeValue d 0 0 S I P Q 37 [(0, .ref 0), (1, .int (nI k)), (2, .ref (24 + 3 * k)), (3, .int (nI i))] [] := by
  intro r
  induction r with
  | zero =>
    intro i I P hir hw h03 hys hpm hL hf0 hP0
    refine cn_iload_n (pc' := 38) (k := 3) rfl rfl d_X_changeValue_37 rfl ?_
    refine cn_aload_n (pc' := 39) (k := 0) rfl rfl d_X_changeValue_38 rfl ?_
    refine cn_getIv (pc' := 42) (v := nI (xs.length)) h03 fl_X_67 hw.1 rfl d_X_changeValue_39 rfl ?_
    refine cn_icmp_ge_n (tgt := 74) (pc' := 45) (by omega) (by omega) d_X_changeValue_42 (by decide) rfl (fun hc42 => ?_) (fun hc42 => ?_)
    · refine cn_iconst (pc' := 75) k_c_1 d_X_changeValue_74 rfl ?_
      refine cn_zret rfl (Or.inr rfl) d_X_changeValue_75 ?_
      have e : i = xs.length := by omega
      exact K I P hw hpm (fun j hj => by have h := hL j hj; rw [if_pos (by omega)] at h; exact h) hf0 hP0
    · exact absurd hc42 (by omega)
  | succ r ih =>
    intro i I P hir hw h03 hys hpm hL hf0 hP0
    have hx := hL i (by omega)
    rw [if_neg (Nat.lt_irrefl i)] at hx
    obtain ⟨b1, b2, b3, b4, b5, b6, b7, π, b8⟩ := hx
    refine cn_iload_n (pc' := 38) (k := 3) rfl rfl d_X_changeValue_37 rfl ?_
    refine cn_aload_n (pc' := 39) (k := 0) rfl rfl d_X_changeValue_38 rfl ?_
    refine cn_getIv (pc' := 42) (v := nI (xs.length)) h03 fl_X_67 hw.1 rfl d_X_changeValue_39 rfl ?_
    refine cn_icmp_ge_n (tgt := 74) (pc' := 45) (by omega) (by omega) d_X_changeValue_42 (by decide) rfl (fun hc42 => ?_) (fun hc42 => ?_)
    · exact absurd hc42 (by omega)
    · refine cn_aload_n (pc' := 46) (k := 0) rfl rfl d_X_changeValue_45 rfl ?_
      refine cn_getP (pc' := 49) (b := 2) hw.2.1.2.1 fl_X_17 hw.1 rfl d_X_changeValue_46 rfl ?_
      refine cn_iload_n (pc' := 50) (k := 3) rfl rfl d_X_changeValue_49 rfl ?_
      refine cn_aald (pc' := 51) (b := (71 + 14 * i)) hw.2.2.2.1.1 (by decide) (by decide) rfl (by omega) (by decide) (hw.it (i := i) (by omega)).1 d_X_changeValue_50 rfl ?_
      refine cn_getIv (pc' := 54) (v := nI ((xs.getD i it0).1)) b1 fl_X_168 (hw.it (i := i) (by omega)).2.1 rfl d_X_changeValue_51 rfl ?_
      refine cn_iload_n (pc' := 55) (k := 1) rfl rfl d_X_changeValue_54 rfl ?_
      refine cn_icmp_ne_n (tgt := 68) (pc' := 58) (by omega) (by omega) d_X_changeValue_55 (by decide) rfl (fun hc55 => ?_) (fun hc55 => ?_)
      · refine cn_iinc_n (pc' := 71) (lv' := [(0, .ref 0), (1, .int (nI (k))), (2, .ref ((24 + 3 * k))), (3, .int (nI (i + 1)))]) (k := 3) [1, 2, 3, 0] rfl (Nat.le_of_ble_eq_true rfl) rfl d_X_changeValue_68 rfl ?_
        refine cn_goto (tgt := 37) d_X_changeValue_71 (by decide) ?_
        refine ih (i + 1) I P (by omega) hw h03 hys hpm ?_ hf0 hP0
        intro j hj
        have h := hL j hj
        by_cases e : j = i
        · subst e
          rw [if_neg (Nat.lt_irrefl j)] at h
          rw [if_pos (Nat.lt_succ_self j)]
          unfold chx
          rw [if_neg hc55]
          exact h
        · have e2 : (if j < i + 1 then chx k u (xs.getD j it0) else xs.getD j it0) = (if j < i then chx k u (xs.getD j it0) else xs.getD j it0) := by
            by_cases h3 : j < i
            · rw [if_pos h3, if_pos (by omega)]
            · rw [if_neg h3, if_neg (by omega)]
          rw [e2]
          exact h
      · refine cn_aload_n (pc' := 59) (k := 0) rfl rfl d_X_changeValue_58 rfl ?_
        refine cn_getP (pc' := 62) (b := 2) hw.2.1.2.1 fl_X_17 hw.1 rfl d_X_changeValue_59 rfl ?_
        refine cn_iload_n (pc' := 63) (k := 3) rfl rfl d_X_changeValue_62 rfl ?_
        refine cn_aald (pc' := 64) (b := (71 + 14 * i)) hw.2.2.2.1.1 (by decide) (by decide) rfl (by omega) (by decide) (hw.it (i := i) (by omega)).1 d_X_changeValue_63 rfl ?_
        refine cn_aload_n (pc' := 65) (k := 2) rfl rfl d_X_changeValue_64 rfl ?_
        refine cn_callV (pc' := 68) (kc1 := 0) (ks1 := 0) (kc2 := 0) (ks2 := 0) (rest := []) (lvj := [(0, .ref ((71 + 14 * i))), (1, .ref ((24 + 3 * k)))]) [.ref ((24 + 3 * k))] mv_X_171 (hw.it (i := i) (by omega)).2.1 rfl rfl rfl (Nat.le_of_ble_eq_true rfl) (Nat.le_of_ble_eq_true rfl) (by omega) (by omega) (by omega) d_X_changeValue_65 rfl ?_
        refine c_It_addNotice (it := 71 + 14 * i) (c := 24 + 3 * k) (capc := 61) (hw.it (by omega)).2 b8 b3 b4 b5 b6 b7 (hw.nv (by omega)).2 hys hu (by omega) (by omega) (by omega) (fun I1 P1 π1 hq1 hf1 hP1 => ?_)
        show cn_V l en mi_X_changeValue d 0 0 S I1 P1 Q 68 [(0, .ref 0), (1, .int (nI (k))), (2, .ref ((24 + 3 * k))), (3, .int (nI (i)))] []
        refine cn_iinc_n (pc' := 71) (lv' := [(0, .ref 0), (1, .int (nI (k))), (2, .ref ((24 + 3 * k))), (3, .int (nI (i + 1)))]) (k := 3) [1, 2, 3, 0] rfl (Nat.le_of_ble_eq_true rfl) rfl d_X_changeValue_68 rfl ?_
        refine cn_goto (tgt := 37) d_X_changeValue_71 (by decide) ?_
        have hw1 : wX S P1 := hw.keepP (fun a x1 x2 => hP1 a (by have := x2 i (by omega); omega))
        refine ih (i + 1) I1 P1 (by omega) hw1 (by rw [hf1.1 0 (by omega)]; exact h03) (hys.congr (hf1.1 _ (by omega)) (hf1.1 _ (by omega))) ?_ ?_ (fun a x => (hf1.1 a (by omega)).trans (hf0 a x)) (fun a x => (hP1 a (by have := x i (by omega); omega)).trans (hP0 a x))
        · intro q hq
          by_cases e : q = i
          · subst e; exact ⟨π1, by rw [show 72 + 14 * q = 71 + 14 * q + 1 by omega, show 73 + 14 * q = 71 + 14 * q + 2 by omega]; exact hq1.2.2.1⟩
          · obtain ⟨π2, c1, c2, c3⟩ := hpm q hq
            exact ⟨π2, c1, c2, fun j hj => by rw [hP1 _ (by omega)]; exact c3 j hj⟩
        · intro j hj
          by_cases e : j = i
          · subst e
            rw [if_pos (Nat.lt_succ_self j)]
            unfold chx
            rw [if_pos hc55]
            exact ⟨by rw [hf1.2.1]; exact b1, b2, by rw [hf1.2.2.1]; exact b3, by rw [hf1.2.2.2]; exact b4, b5, b6, nq_len b7 b5, π1, hq1⟩
          · have h := hL j hj
            have e2 : (if j < i + 1 then chx k u (xs.getD j it0) else xs.getD j it0) = (if j < i then chx k u (xs.getD j it0) else xs.getD j it0) := by
              by_cases h3 : j < i
              · rw [if_pos h3, if_pos (by omega)]
              · rw [if_neg h3, if_neg (by omega)]
            rw [e2]
            exact h.congr (fun a x1 x2 => hf1.1 a (by omega)) (hP1 _ (by omega))
theorem c_X_changeValue {k : Nat} {u : List Int32} (hw : wX S P) (h01 : I 0 1 = nI ns.length) (hN : rN I ns) (hxs : rI I P xs) (h03 : I 0 3 = nI xs.length) (hkl : k < ns.length) (hy : ys I 20 u) (hu : u.length ≤ 61) (hd1 : 4 ≤ d) (K : ∀ (I' : cn_I) (P' : cn_P), wX S P' → rN I' (chg ns xs k u).2.1 → rI I' P' (chg ns xs k u).2.2 → (∀ a, a < 23 ∨ 155 ≤ a → I' a = I a) → (∀ a, (∀ i, i < 6 → a ≠ 72 + 14 * i) → P' a = P a) → Q (some (.int (nI (chg ns xs k u).1.toNat))) S I' P') : cn_V l en mi_X_changeValue d 0 0 S I P Q 0 [(0, .ref 0), (1, .int (nI k))] [] := by
  have hl := hN.1
  obtain ⟨n1, n2, n3, n4⟩ := hN.2.1 k hkl
  refine cn_aload_n (pc' := 1) (k := 0) rfl rfl d_X_changeValue_0 rfl ?_
  refine cn_getP (pc' := 4) (b := 1) hw.2.1.1 fl_X_11 hw.1 rfl d_X_changeValue_1 rfl ?_
  refine cn_iload_n (pc' := 5) (k := 1) rfl rfl d_X_changeValue_4 rfl ?_
  refine cn_aald (pc' := 6) (b := (23 + 3 * k)) hw.2.2.1.1 (by decide) (by decide) rfl (by omega) (by decide) (hw.nd (i := k) (by omega)).1 d_X_changeValue_5 rfl ?_
  refine cn_getP (pc' := 9) (b := (24 + 3 * k)) (hw.nv (i := k) (by omega)).1 fl_X_154 (hw.nd (i := k) (by omega)).2.1 rfl d_X_changeValue_6 rfl ?_
  refine cn_astore_n (pc' := 10) (lv' := [(0, .ref 0), (1, .int (nI (k))), (2, .ref ((24 + 3 * k)))]) rfl [1, 2, 0] (Nat.le_of_ble_eq_true rfl) rfl d_X_changeValue_9 rfl ?_
  refine cn_aload_n (pc' := 11) (k := 2) rfl rfl d_X_changeValue_10 rfl ?_
  refine cn_aload_n (pc' := 12) (k := 0) rfl rfl d_X_changeValue_11 rfl ?_
  refine cn_getP (pc' := 15) (b := 20) hw.2.1.2.2.2.2.2.1 fl_X_44 hw.1 rfl d_X_changeValue_12 rfl ?_
  refine cn_callV (pc' := 18) (kc1 := 0) (ks1 := 0) (kc2 := 0) (ks2 := 0) (rest := []) (lvj := [(0, .ref ((24 + 3 * k))), (1, .ref 20)]) [.ref 20] mv_X_160 (hw.nv (i := k) (by omega)).2.1 rfl rfl rfl (Nat.le_of_ble_eq_true rfl) (Nat.le_of_ble_eq_true rfl) (by omega) (by omega) (by omega) d_X_changeValue_15 rfl ?_
  refine c_By_isSameAs (b := 24 + 3 * k) (c := 20) (cap := 61) (cap2 := 61) (hw.nv (by omega)).2 n3 n4 hw.ic hy hu (fun heq => ?_) (fun hne => ?_)
  · show cn_V l en mi_X_changeValue d 0 0 S I P Q 18 [(0, .ref 0), (1, .int (nI (k))), (2, .ref ((24 + 3 * k)))] [.int (nI (1))]
    refine cn_if_eq_n (tgt := 23) (pc' := 21) (by omega) d_X_changeValue_18 (by decide) rfl (fun hc18 => ?_) (fun hc18 => ?_)
    · exact False.elim (by omega)
    · refine cn_iconst (pc' := 22) k_c_0 d_X_changeValue_21 rfl ?_
      refine cn_zret rfl (Or.inl rfl) d_X_changeValue_22 ?_
      have e : chg ns xs k u = (false, ns, xs) := by unfold chg; rw [if_pos heq]
      rw [e] at K
      exact K I P hw hN hxs (fun _ _ => rfl) (fun _ _ => rfl)
  · show cn_V l en mi_X_changeValue d 0 0 S I P Q 18 [(0, .ref 0), (1, .int (nI (k))), (2, .ref ((24 + 3 * k)))] [.int (nI (0))]
    refine cn_if_eq_n (tgt := 23) (pc' := 21) (by omega) d_X_changeValue_18 (by decide) rfl (fun hc18 => ?_) (fun hc18 => ?_)
    · refine cn_aload_n (pc' := 24) (k := 2) rfl rfl d_X_changeValue_23 rfl ?_
      refine cn_callV (pc' := 27) (kc1 := 0) (ks1 := 0) (kc2 := 0) (ks2 := 0) (rest := []) (lvj := [(0, .ref ((24 + 3 * k)))]) [] mv_X_71 (hw.nv (i := k) (by omega)).2.1 rfl rfl rfl (Nat.le_of_ble_eq_true rfl) (Nat.le_of_ble_eq_true rfl) (by omega) (by omega) (by omega) d_X_changeValue_24 rfl ?_
      refine c_By_clear (b := 24 + 3 * k) (cap := 61) (hw.nv (by omega)).2 (fun I1 hy1 hf1 => ?_)
      show cn_V l en mi_X_changeValue d 0 0 S I1 P Q 27 [(0, .ref 0), (1, .int (nI (k))), (2, .ref ((24 + 3 * k)))] []
      refine cn_aload_n (pc' := 28) (k := 2) rfl rfl d_X_changeValue_27 rfl ?_
      refine cn_aload_n (pc' := 29) (k := 0) rfl rfl d_X_changeValue_28 rfl ?_
      refine cn_getP (pc' := 32) (b := 20) hw.2.1.2.2.2.2.2.1 fl_X_44 hw.1 rfl d_X_changeValue_29 rfl ?_
      refine cn_callV (pc' := 35) (kc1 := 0) (ks1 := 0) (kc2 := 0) (ks2 := 0) (rest := []) (lvj := [(0, .ref ((24 + 3 * k))), (1, .ref 20)]) [.ref 20] mv_X_164 (hw.nv (i := k) (by omega)).2.1 rfl rfl rfl (Nat.le_of_ble_eq_true rfl) (Nat.le_of_ble_eq_true rfl) (by omega) (by omega) (by omega) d_X_changeValue_32 rfl ?_
      refine c_By_append (b := 24 + 3 * k) (c := 20) (cap := 61) (cap2 := 61) (hw.nv (by omega)).2 hy1 (Nat.zero_le _) hw.ic (hy.keep hf1 (by omega) (by omega) (by omega)) hu (by omega) (by omega) (by omega) (fun I2 hy2 hf2 => ?_)
      rw [List.nil_append, List.take_of_length_le hu] at hy2
      show cn_V l en mi_X_changeValue d 0 0 S I2 P Q 35 [(0, .ref 0), (1, .int (nI (k))), (2, .ref ((24 + 3 * k)))] []
      refine cn_iconst (pc' := 36) k_c_0 d_X_changeValue_35 rfl ?_
      refine cn_istore_n (pc' := 37) (lv' := [(0, .ref 0), (1, .int (nI (k))), (2, .ref ((24 + 3 * k))), (3, .int (nI (0)))]) rfl [1, 2, 3, 0] (Nat.le_of_ble_eq_true rfl) rfl d_X_changeValue_36 rfl ?_
      have hr : ∀ a, a ≠ 24 + 3 * k → a ≠ 25 + 3 * k → I2 a = I a := fun a x1 x2 => (hf2 a x1 (by omega)).trans (hf1 a x1 (by omega))
      have e : chg ns xs k u = (true, ns.set k ((ns.getD k nd0).1, (ns.getD k nd0).2.1, u), xs.map (chx k u)) := by unfold chg; rw [if_neg hne]
      rw [e] at K
      have hI2 : rI I2 P xs := hxs.congr (fun a x1 x2 => hr a (by omega) (by omega)) (fun _ _ => rfl)
      refine c_X_changeValue_loop (by omega) hI2.1 hu hd1 I2 P (fun I3 P3 hw3 hpm3 hL3 hf3 hP3 => ?_) xs.length 0 I2 P (by omega) hw (by rw [hr 0 (by omega) (by omega)]; exact h03) hy2 hI2.2.1 (fun j hj => by rw [if_neg (Nat.not_lt_zero j)]; exact hI2.2.2 j hj) (fun _ _ => rfl) (fun _ _ => rfl)
      refine K I3 P3 hw3 (rN_set hN hkl (hy2.congr (hf3 _ (by omega)) (hf3 _ (by omega))) hu (fun a x1 x2 x3 x4 => (hf3 a (by omega)).trans (hr a x3 x4))) ⟨by rw [List.length_map]; exact hI2.1, hpm3, fun i hi => ?_⟩ (fun a x => (hf3 a (by omega)).trans (hr a (by omega) (by omega))) hP3
      rw [List.length_map] at hi
      rw [it_map _ _ hi]
      exact hL3 i hi
    · exact False.elim (by omega)
end
end
section
def sp_part (c : sCh) : Int32 := match c.2.2.2.1 with
  | none => -1
  | some _ => nI c.2.2.2.2.length
def sp_ans (ru : List Int32) (i : Int32) : Int32 := if i < 0 then -1 else if i.toNatClampNeg < ru.length then ru.getD i.toNatClampNeg 0 else -1
def sp_queue (xs : List sItem) (i : Int32) : Int32 := if i < 0 then -1 else if i.toNatClampNeg < xs.length then nI (xs.getD i.toNatClampNeg it0).2.2.2.length else -1
def sp_parcel (ps : List sPar) (i : Int32) : Int32 := if i < 0 then -1 else if i.toNatClampNeg < ps.length then (ps.getD i.toNatClampNeg pad).1 else -1
def sp_size (ns : List sNode) (n : Int32) : Int32 := match vdx ns n with
  | none => -1
  | some k => nI (ns.getD k nd0).2.2.length
def sp_var (ns : List sNode) (par t : Int32) : Int32 × List sNode := if isT t = true then sp_add ns par t else (-1, ns)
section
variable {l : Launch} {en : cn_E} {d : Nat} {S : cn_S} {I : cn_I} {P : cn_P} {Q : Option Value → cn_S → cn_I → cn_P → Prop}
variable {ns : List sNode} {xs : List sItem} {ps : List sPar} {pn : Int32} {ch : sCh} {rq : Int32} {ru : List Int32}
theorem C_X_isOpen (h : RC S I P (ns, xs, (ps, pn), ch, (rq, ru))) (K : Q (some (.int (nI ch.1.toNat))) S I P) : cn_V l en mi_X_isOpen d 0 0 S I P Q 0 [(0, .ref 0)] [] := by
  obtain ⟨hw, hX, hN, hI, hS, hC, hR, hV⟩ := h
  have hX : rX I ns.length xs.length rq := hX
  have hN : rN I ns := hN
  have hI : rI I P xs := hI
  have hS : rS I P ps pn := hS
  have hC : chs I 14 ch := hC
  have hR : rR I ru := hR
  have h01 := hX.1
  have hl16 := hN.1
  have hl6 := hI.1
  have hl195 := hR.2
  have hl64 := hC.2.2.2.2.2.2
  obtain ⟨⟨π, hk⟩, hpn⟩ := hS
  have hl3 := hk.2.1
  refine cn_aload_n (pc' := 1) (k := 0) rfl rfl d_X_isOpen_0 rfl ?_
  refine cn_getP (pc' := 4) (b := 14) hw.2.1.2.2.2.1 fl_X_31 hw.1 rfl d_X_isOpen_1 rfl ?_
  refine cn_getIv (pc' := 7) (v := nI (ch.1.toNat)) hC.1 fl_X_74 hw.ch.1 rfl d_X_isOpen_4 rfl ?_
  refine cn_zret rfl (by cases ch.1 <;> decide) d_X_isOpen_7 ?_
  exact K
theorem C_X_part (h : RC S I P (ns, xs, (ps, pn), ch, (rq, ru))) (K : Q (some (.int (sp_part ch))) S I P) : cn_V l en mi_X_part d 0 0 S I P Q 0 [(0, .ref 0)] [] := by
  obtain ⟨hw, hX, hN, hI, hS, hC, hR, hV⟩ := h
  have hX : rX I ns.length xs.length rq := hX
  have hN : rN I ns := hN
  have hI : rI I P xs := hI
  have hS : rS I P ps pn := hS
  have hC : chs I 14 ch := hC
  have hR : rR I ru := hR
  have h01 := hX.1
  have hl16 := hN.1
  have hl6 := hI.1
  have hl195 := hR.2
  have hl64 := hC.2.2.2.2.2.2
  obtain ⟨⟨π, hk⟩, hpn⟩ := hS
  have hl3 := hk.2.1
  have hb2 := tn_le ch.2.2.2.1.isSome
  refine cn_aload_n (pc' := 1) (k := 0) rfl rfl d_X_part_0 rfl ?_
  refine cn_getP (pc' := 4) (b := 14) hw.2.1.2.2.2.1 fl_X_31 hw.1 rfl d_X_part_1 rfl ?_
  refine cn_getIv (pc' := 7) (v := nI (ch.2.2.2.1.isSome.toNat)) hC.2.2.2.1 fl_X_124 hw.ch.1 rfl d_X_part_4 rfl ?_
  refine cn_if_eq_n (tgt := 26) (pc' := 10) (by omega) d_X_part_7 (by decide) rfl (fun hc7 => ?_) (fun hc7 => ?_)
  · refine cn_iconst (pc' := 27) k_c_m1 d_X_part_26 rfl ?_
    refine cn_iret rfl d_X_part_27 ?_
    have e : sp_part ch = -1 := by unfold sp_part; cases hq : ch.2.2.2.1 with | none => rfl | some x => rw [hq] at hc7; cases hc7
    rw [e] at K; exact K
  · refine cn_aload_n (pc' := 11) (k := 0) rfl rfl d_X_part_10 rfl ?_
    refine cn_getP (pc' := 14) (b := 14) hw.2.1.2.2.2.1 fl_X_31 hw.1 rfl d_X_part_11 rfl ?_
    refine cn_getP (pc' := 17) (b := 15) hw.ch.2.1 fl_X_113 hw.ch.1 rfl d_X_part_14 rfl ?_
    refine cn_getP (pc' := 20) (b := 16) hw.me.2.1 fl_X_127 hw.me.1 rfl d_X_part_17 rfl ?_
    refine cn_getIv (pc' := 23) (v := nI (ch.2.2.2.2.length)) hC.2.2.2.2.2.1.1 fl_X_132 hw.me.2.2.1 rfl d_X_part_20 rfl ?_
    refine cn_goto (tgt := 27) d_X_part_23 (by decide) ?_
    refine cn_iret rfl d_X_part_27 ?_
    obtain ⟨q, hq⟩ := Option.isSome_iff_exists.mp (tn_1 hc7)
    have e : sp_part ch = nI ch.2.2.2.2.length := by unfold sp_part; rw [hq]
    rw [e] at K; exact K
theorem C_X_answerLength (h : RC S I P (ns, xs, (ps, pn), ch, (rq, ru))) (K : Q (some (.int (nI ru.length))) S I P) : cn_V l en mi_X_answerLength d 0 0 S I P Q 0 [(0, .ref 0)] [] := by
  obtain ⟨hw, hX, hN, hI, hS, hC, hR, hV⟩ := h
  have hX : rX I ns.length xs.length rq := hX
  have hN : rN I ns := hN
  have hI : rI I P xs := hI
  have hS : rS I P ps pn := hS
  have hC : chs I 14 ch := hC
  have hR : rR I ru := hR
  have h01 := hX.1
  have hl16 := hN.1
  have hl6 := hI.1
  have hl195 := hR.2
  have hl64 := hC.2.2.2.2.2.2
  obtain ⟨⟨π, hk⟩, hpn⟩ := hS
  have hl3 := hk.2.1
  refine cn_aload_n (pc' := 1) (k := 0) rfl rfl d_X_answerLength_0 rfl ?_
  refine cn_getP (pc' := 4) (b := 18) hw.2.1.2.2.2.2.1 fl_X_40 hw.1 rfl d_X_answerLength_1 rfl ?_
  refine cn_getIv (pc' := 7) (v := nI (ru.length)) hR.1.1 fl_X_132 hw.re.1 rfl d_X_answerLength_4 rfl ?_
  refine cn_iret rfl d_X_answerLength_7 ?_
  exact K
theorem C_X_request (h : RC S I P (ns, xs, (ps, pn), ch, (rq, ru))) (K : Q (some (.int (rq))) S I P) : cn_V l en mi_X_request d 0 0 S I P Q 0 [(0, .ref 0)] [] := by
  obtain ⟨hw, hX, hN, hI, hS, hC, hR, hV⟩ := h
  have hX : rX I ns.length xs.length rq := hX
  have hN : rN I ns := hN
  have hI : rI I P xs := hI
  have hS : rS I P ps pn := hS
  have hC : chs I 14 ch := hC
  have hR : rR I ru := hR
  have h01 := hX.1
  have hl16 := hN.1
  have hl6 := hI.1
  have hl195 := hR.2
  have hl64 := hC.2.2.2.2.2.2
  obtain ⟨⟨π, hk⟩, hpn⟩ := hS
  have hl3 := hk.2.1
  refine cn_aload_n (pc' := 1) (k := 0) rfl rfl d_X_request_0 rfl ?_
  refine cn_getIv (pc' := 4) (v := rq) hX.2.2 fl_X_61 hw.1 rfl d_X_request_1 rfl ?_
  refine cn_iret rfl d_X_request_4 ?_
  exact K
theorem C_X_parcels (h : RC S I P (ns, xs, (ps, pn), ch, (rq, ru))) (K : Q (some (.int (nI ps.length))) S I P) : cn_V l en mi_X_parcels d 0 0 S I P Q 0 [(0, .ref 0)] [] := by
  obtain ⟨hw, hX, hN, hI, hS, hC, hR, hV⟩ := h
  have hX : rX I ns.length xs.length rq := hX
  have hN : rN I ns := hN
  have hI : rI I P xs := hI
  have hS : rS I P ps pn := hS
  have hC : chs I 14 ch := hC
  have hR : rR I ru := hR
  have h01 := hX.1
  have hl16 := hN.1
  have hl6 := hI.1
  have hl195 := hR.2
  have hl64 := hC.2.2.2.2.2.2
  obtain ⟨⟨π, hk⟩, hpn⟩ := hS
  have hl3 := hk.2.1
  refine cn_aload_n (pc' := 1) (k := 0) rfl rfl d_X_parcels_0 rfl ?_
  refine cn_getP (pc' := 4) (b := 3) hw.2.1.2.2.1 fl_X_24 hw.1 rfl d_X_parcels_1 rfl ?_
  refine cn_getIv (pc' := 7) (v := nI (ps.length)) hk.1 fl_X_142 hw.sf.1 rfl d_X_parcels_4 rfl ?_
  refine cn_iret rfl d_X_parcels_7 ?_
  exact K
theorem C_X_answer {i : Int32} (h : RC S I P (ns, xs, (ps, pn), ch, (rq, ru))) (hd1 : 1 ≤ d) (K : Q (some (.int (sp_ans ru i))) S I P) : cn_V l en mi_X_answer d 0 0 S I P Q 0 [(0, .ref 0), (1, .int i)] [] := by
  obtain ⟨hw, hX, hN, hI, hS, hC, hR, hV⟩ := h
  have hX : rX I ns.length xs.length rq := hX
  have hN : rN I ns := hN
  have hI : rI I P xs := hI
  have hS : rS I P ps pn := hS
  have hC : chs I 14 ch := hC
  have hR : rR I ru := hR
  have h01 := hX.1
  have hl16 := hN.1
  have hl6 := hI.1
  have hl195 := hR.2
  have hl64 := hC.2.2.2.2.2.2
  obtain ⟨⟨π, hk⟩, hpn⟩ := hS
  have hl3 := hk.2.1
  refine cn_iload_n (pc' := 1) (k := 1) rfl rfl d_X_answer_0 rfl ?_
  refine cn_if_lt (tgt := 26) (pc' := 4) d_X_answer_1 (by decide) rfl (fun hc1 => ?_) (fun hc1 => ?_)
  · refine cn_iconst (pc' := 27) k_c_m1 d_X_answer_26 rfl ?_
    refine cn_iret rfl d_X_answer_27 ?_
    have e : sp_ans ru i = -1 := if_pos hc1
    rw [e] at K; exact K
  · obtain ⟨j, hj, rfl⟩ := nI_of hc1
    refine cn_iload_n (pc' := 5) (k := 1) rfl rfl d_X_answer_4 rfl ?_
    refine cn_aload_n (pc' := 6) (k := 0) rfl rfl d_X_answer_5 rfl ?_
    refine cn_getP (pc' := 9) (b := 18) hw.2.1.2.2.2.2.1 fl_X_40 hw.1 rfl d_X_answer_6 rfl ?_
    refine cn_getIv (pc' := 12) (v := nI (ru.length)) hR.1.1 fl_X_132 hw.re.1 rfl d_X_answer_9 rfl ?_
    refine cn_icmp_ge_n (tgt := 26) (pc' := 15) (by omega) (by omega) d_X_answer_12 (by decide) rfl (fun hc12 => ?_) (fun hc12 => ?_)
    · refine cn_iconst (pc' := 27) k_c_m1 d_X_answer_26 rfl ?_
      refine cn_iret rfl d_X_answer_27 ?_
      have e : sp_ans ru (nI j) = -1 := by unfold sp_ans; rw [if_neg (nI_pos hj), nI_clamp hj, if_neg (by omega)]
      rw [e] at K; exact K
    · refine cn_aload_n (pc' := 16) (k := 0) rfl rfl d_X_answer_15 rfl ?_
      refine cn_getP (pc' := 19) (b := 18) hw.2.1.2.2.2.2.1 fl_X_40 hw.1 rfl d_X_answer_16 rfl ?_
      refine cn_iload_n (pc' := 20) (k := 1) rfl rfl d_X_answer_19 rfl ?_
      refine cn_callV (pc' := 23) (kc1 := 0) (ks1 := 0) (kc2 := 0) (ks2 := 0) (rest := []) (lvj := [(0, .ref 18), (1, .int (nI (j)))]) [.int (nI (j))] mv_X_135 hw.re.1 rfl rfl rfl (Nat.le_of_ble_eq_true rfl) (Nat.le_of_ble_eq_true rfl) (by omega) (by omega) (by omega) d_X_answer_20 rfl ?_
      refine c_By_at (b := 18) (cap := 195) hw.re hR.1 hR.2 ?_
      have ea : ya ru (nI j) = ru.getD j 0 := by unfold ya; rw [if_neg (nI_pos hj), nI_clamp hj]
      rw [ea]
      show cn_V l en mi_X_answer d 0 0 S I P Q 23 [(0, .ref 0), (1, .int (nI (j)))] [.int (ru.getD j 0)]
      refine cn_goto (tgt := 27) d_X_answer_23 (by decide) ?_
      refine cn_iret rfl d_X_answer_27 ?_
      have e : sp_ans ru (nI j) = ru.getD j 0 := by unfold sp_ans; rw [if_neg (nI_pos hj), nI_clamp hj, if_pos (by omega)]
      rw [e] at K; exact K
theorem C_X_queue {i : Int32} (h : RC S I P (ns, xs, (ps, pn), ch, (rq, ru))) (K : Q (some (.int (sp_queue xs i))) S I P) : cn_V l en mi_X_queue d 0 0 S I P Q 0 [(0, .ref 0), (1, .int i)] [] := by
  obtain ⟨hw, hX, hN, hI, hS, hC, hR, hV⟩ := h
  have hX : rX I ns.length xs.length rq := hX
  have hN : rN I ns := hN
  have hI : rI I P xs := hI
  have hS : rS I P ps pn := hS
  have hC : chs I 14 ch := hC
  have hR : rR I ru := hR
  have h01 := hX.1
  have hl16 := hN.1
  have hl6 := hI.1
  have hl195 := hR.2
  have hl64 := hC.2.2.2.2.2.2
  obtain ⟨⟨π, hk⟩, hpn⟩ := hS
  have hl3 := hk.2.1
  refine cn_iload_n (pc' := 1) (k := 1) rfl rfl d_X_queue_0 rfl ?_
  refine cn_if_lt (tgt := 24) (pc' := 4) d_X_queue_1 (by decide) rfl (fun hc1 => ?_) (fun hc1 => ?_)
  · refine cn_iconst (pc' := 25) k_c_m1 d_X_queue_24 rfl ?_
    refine cn_iret rfl d_X_queue_25 ?_
    have e : sp_queue xs i = -1 := if_pos hc1
    rw [e] at K; exact K
  · obtain ⟨j, hj, rfl⟩ := nI_of hc1
    refine cn_iload_n (pc' := 5) (k := 1) rfl rfl d_X_queue_4 rfl ?_
    refine cn_aload_n (pc' := 6) (k := 0) rfl rfl d_X_queue_5 rfl ?_
    refine cn_getIv (pc' := 9) (v := nI (xs.length)) hX.2.1 fl_X_67 hw.1 rfl d_X_queue_6 rfl ?_
    refine cn_icmp_ge_n (tgt := 24) (pc' := 12) (by omega) (by omega) d_X_queue_9 (by decide) rfl (fun hc9 => ?_) (fun hc9 => ?_)
    · refine cn_iconst (pc' := 25) k_c_m1 d_X_queue_24 rfl ?_
      refine cn_iret rfl d_X_queue_25 ?_
      have e : sp_queue xs (nI j) = -1 := by unfold sp_queue; rw [if_neg (nI_pos hj), nI_clamp hj, if_neg (by omega)]
      rw [e] at K; exact K
    · obtain ⟨b1, b2, b3, b4, b5, b6, b7, π9, b8⟩ := hI.2.2 j (by omega)
      refine cn_aload_n (pc' := 13) (k := 0) rfl rfl d_X_queue_12 rfl ?_
      refine cn_getP (pc' := 16) (b := 2) hw.2.1.2.1 fl_X_17 hw.1 rfl d_X_queue_13 rfl ?_
      refine cn_iload_n (pc' := 17) (k := 1) rfl rfl d_X_queue_16 rfl ?_
      refine cn_aald (pc' := 18) (b := (71 + 14 * j)) hw.2.2.2.1.1 (by decide) (by decide) rfl (by omega) (by decide) (hw.it (i := j) (by omega)).1 d_X_queue_17 rfl ?_
      refine cn_getIv (pc' := 21) (v := nI ((xs.getD j it0).2.2.2.length)) b8.1 fl_X_139 (hw.it (i := j) (by omega)).2.1 rfl d_X_queue_18 rfl ?_
      refine cn_goto (tgt := 25) d_X_queue_21 (by decide) ?_
      refine cn_iret rfl d_X_queue_25 ?_
      have e : sp_queue xs (nI j) = nI (xs.getD j it0).2.2.2.length := by unfold sp_queue; rw [if_neg (nI_pos hj), nI_clamp hj, if_pos (by omega)]
      rw [e] at K; exact K
theorem C_X_parcel {i : Int32} (h : RC S I P (ns, xs, (ps, pn), ch, (rq, ru))) (K : Q (some (.int (sp_parcel ps i))) S I P) : cn_V l en mi_X_parcel d 0 0 S I P Q 0 [(0, .ref 0), (1, .int i)] [] := by
  obtain ⟨hw, hX, hN, hI, hS, hC, hR, hV⟩ := h
  have hX : rX I ns.length xs.length rq := hX
  have hN : rN I ns := hN
  have hI : rI I P xs := hI
  have hS : rS I P ps pn := hS
  have hC : chs I 14 ch := hC
  have hR : rR I ru := hR
  have h01 := hX.1
  have hl16 := hN.1
  have hl6 := hI.1
  have hl195 := hR.2
  have hl64 := hC.2.2.2.2.2.2
  obtain ⟨⟨π, hk⟩, hpn⟩ := hS
  have hl3 := hk.2.1
  refine cn_iload_n (pc' := 1) (k := 1) rfl rfl d_X_parcel_0 rfl ?_
  refine cn_if_lt (tgt := 30) (pc' := 4) d_X_parcel_1 (by decide) rfl (fun hc1 => ?_) (fun hc1 => ?_)
  · refine cn_iconst (pc' := 31) k_c_m1 d_X_parcel_30 rfl ?_
    refine cn_iret rfl d_X_parcel_31 ?_
    have e : sp_parcel ps i = -1 := if_pos hc1
    rw [e] at K; exact K
  · obtain ⟨j, hj, rfl⟩ := nI_of hc1
    refine cn_iload_n (pc' := 5) (k := 1) rfl rfl d_X_parcel_4 rfl ?_
    refine cn_aload_n (pc' := 6) (k := 0) rfl rfl d_X_parcel_5 rfl ?_
    refine cn_getP (pc' := 9) (b := 3) hw.2.1.2.2.1 fl_X_24 hw.1 rfl d_X_parcel_6 rfl ?_
    refine cn_getIv (pc' := 12) (v := nI (ps.length)) hk.1 fl_X_142 hw.sf.1 rfl d_X_parcel_9 rfl ?_
    refine cn_icmp_ge_n (tgt := 30) (pc' := 15) (by omega) (by omega) d_X_parcel_12 (by decide) rfl (fun hc12 => ?_) (fun hc12 => ?_)
    · refine cn_iconst (pc' := 31) k_c_m1 d_X_parcel_30 rfl ?_
      refine cn_iret rfl d_X_parcel_31 ?_
      have e : sp_parcel ps (nI j) = -1 := by unfold sp_parcel; rw [if_neg (nI_pos hj), nI_clamp hj, if_neg (by omega)]
      rw [e] at K; exact K
    · refine cn_aload_n (pc' := 16) (k := 0) rfl rfl d_X_parcel_15 rfl ?_
      refine cn_getP (pc' := 19) (b := 3) hw.2.1.2.2.1 fl_X_24 hw.1 rfl d_X_parcel_16 rfl ?_
      refine cn_getP (pc' := 22) (b := 4) hw.sf.2.1 fl_X_145 hw.sf.1 rfl d_X_parcel_19 rfl ?_
      refine cn_iload_n (pc' := 23) (k := 1) rfl rfl d_X_parcel_22 rfl ?_
      refine cn_aald (pc' := 24) (b := (3 + 2 + 3 * π j)) hw.sf.2.2.1 (by decide) (by decide) rfl (by omega) (by decide) (hk.2.2.1.2.2 _ (by omega)) d_X_parcel_23 rfl ?_
      refine cn_getIv (pc' := 27) (v := (ps.getD j pad).1) (hk.2.2.2 j (by omega)).1 fl_X_149 (hw.sf.2.2.2 _ (hk.2.2.1.1 _ (by omega))).1 rfl d_X_parcel_24 rfl ?_
      refine cn_goto (tgt := 31) d_X_parcel_27 (by decide) ?_
      refine cn_iret rfl d_X_parcel_31 ?_
      have e : sp_parcel ps (nI j) = (ps.getD j pad).1 := by unfold sp_parcel; rw [if_neg (nI_pos hj), nI_clamp hj, if_pos (by omega)]
      rw [e] at K; exact K
theorem C_X_size {n : Int32} (h : RC S I P (ns, xs, (ps, pn), ch, (rq, ru))) (hd1 : 2 ≤ d) (K : Q (some (.int (sp_size ns n))) S I P) : cn_V l en mi_X_size d 0 0 S I P Q 0 [(0, .ref 0), (1, .int n)] [] := by
  obtain ⟨hw, hX, hN, hI, hS, hC, hR, hV⟩ := h
  have hX : rX I ns.length xs.length rq := hX
  have hN : rN I ns := hN
  have hI : rI I P xs := hI
  have hS : rS I P ps pn := hS
  have hC : chs I 14 ch := hC
  have hR : rR I ru := hR
  have h01 := hX.1
  have hl16 := hN.1
  have hl6 := hI.1
  have hl195 := hR.2
  have hl64 := hC.2.2.2.2.2.2
  obtain ⟨⟨π, hk⟩, hpn⟩ := hS
  have hl3 := hk.2.1
  refine cn_aload_n (pc' := 1) (k := 0) rfl rfl d_X_size_0 rfl ?_
  refine cn_iload_n (pc' := 2) (k := 1) rfl rfl d_X_size_1 rfl ?_
  refine cn_callV (pc' := 5) (kc1 := 0) (ks1 := 0) (kc2 := 0) (ks2 := 0) (rest := []) (lvj := [(0, .ref 0), (1, .int (n))]) [.int (n)] mv_X_86 hw.1 rfl rfl rfl (Nat.le_of_ble_eq_true rfl) (Nat.le_of_ble_eq_true rfl) (by omega) (by omega) (by omega) d_X_size_2 rfl ?_
  refine c_X_isVariable (ns := ns) hw h01 hN (by omega) (fun k2 hnk2 hkl2 hv => ?_) (fun hnv => ?_)
  · subst hnk2
    show cn_V l en mi_X_size d 0 0 S I P Q 5 [(0, .ref 0), (1, .int (nI (k2)))] [.int (nI (1))]
    refine cn_if_eq_n (tgt := 23) (pc' := 8) (by omega) d_X_size_5 (by decide) rfl (fun hc5 => ?_) (fun hc5 => ?_)
    · exact False.elim (by omega)
    · refine cn_aload_n (pc' := 9) (k := 0) rfl rfl d_X_size_8 rfl ?_
      refine cn_getP (pc' := 12) (b := 1) hw.2.1.1 fl_X_11 hw.1 rfl d_X_size_9 rfl ?_
      refine cn_iload_n (pc' := 13) (k := 1) rfl rfl d_X_size_12 rfl ?_
      refine cn_aald (pc' := 14) (b := (23 + 3 * k2)) hw.2.2.1.1 (by decide) (by decide) rfl (by omega) (by decide) (hw.nd (i := k2) (by omega)).1 d_X_size_13 rfl ?_
      refine cn_getP (pc' := 17) (b := (24 + 3 * k2)) (hw.nv (i := k2) (by omega)).1 fl_X_154 (hw.nd (i := k2) (by omega)).2.1 rfl d_X_size_14 rfl ?_
      refine cn_getIv (pc' := 20) (v := nI ((ns.getD k2 nd0).2.2.length)) (hN.2.1 k2 (by omega)).2.2.1.1 fl_X_132 (hw.nv (i := k2) (by omega)).2.1 rfl d_X_size_17 rfl ?_
      refine cn_goto (tgt := 24) d_X_size_20 (by decide) ?_
      refine cn_iret rfl d_X_size_24 ?_
      have e : sp_size ns (nI k2) = nI (ns.getD k2 nd0).2.2.length := by unfold sp_size; rw [vdx_some hkl2 (by omega) hv]
      rw [e] at K; exact K
  · show cn_V l en mi_X_size d 0 0 S I P Q 5 [(0, .ref 0), (1, .int (n))] [.int (nI (0))]
    refine cn_if_eq_n (tgt := 23) (pc' := 8) (by omega) d_X_size_5 (by decide) rfl (fun hc5 => ?_) (fun hc5 => ?_)
    · refine cn_iconst (pc' := 24) k_c_m1 d_X_size_23 rfl ?_
      refine cn_iret rfl d_X_size_24 ?_
      have e : sp_size ns n = -1 := by unfold sp_size; rw [hnv]
      rw [e] at K; exact K
    · exact False.elim (by omega)
theorem C_X_folder {n : Int32} (h : RC S I P (ns, xs, (ps, pn), ch, (rq, ru))) (hd1 : 4 ≤ d) (K : ∀ (I' : cn_I), RC S I' P ((sp_add ns n (-1)).2, xs, (ps, pn), ch, (rq, ru)) → frX I I' P P → Q (some (.int ((sp_add ns n (-1)).1))) S I' P) : cn_V l en mi_X_folder d 0 0 S I P Q 0 [(0, .ref 0), (1, .int n)] [] := by
  obtain ⟨hw, hX, hN, hI, hS, hC, hR, hV⟩ := h
  have hX : rX I ns.length xs.length rq := hX
  have hN : rN I ns := hN
  have hI : rI I P xs := hI
  have hS : rS I P ps pn := hS
  have hC : chs I 14 ch := hC
  have hR : rR I ru := hR
  have h01 := hX.1
  have hl16 := hN.1
  have hl6 := hI.1
  have hl195 := hR.2
  have hl64 := hC.2.2.2.2.2.2
  obtain ⟨⟨π, hk⟩, hpn⟩ := hS
  have hl3 := hk.2.1
  refine cn_aload_n (pc' := 1) (k := 0) rfl rfl d_X_folder_0 rfl ?_
  refine cn_iload_n (pc' := 2) (k := 1) rfl rfl d_X_folder_1 rfl ?_
  refine cn_iconst (pc' := 3) k_c_m1 d_X_folder_2 rfl ?_
  refine cn_callV (pc' := 6) (kc1 := 0) (ks1 := 0) (kc2 := 0) (ks2 := 0) (rest := []) (lvj := [(0, .ref 0), (1, .int (n)), (2, .int (-1))]) [.int (n), .int (-1)] mv_X_78 hw.1 rfl rfl rfl (Nat.le_of_ble_eq_true rfl) (Nat.le_of_ble_eq_true rfl) (by omega) (by omega) (by omega) d_X_folder_3 rfl ?_
  refine c_X_addNode (ns := ns) hw h01 hN (Or.inl rfl) (by omega) (fun I1 hN1 h1x h2x h3x => ?_)
  show cn_V l en mi_X_folder d 0 0 S I1 P Q 6 [(0, .ref 0), (1, .int (n))] [.int ((sp_add ns n (-1)).1)]
  refine cn_iret rfl d_X_folder_6 ?_
  exact K I1 ⟨hw, ⟨h1x, by rw [h2x 3 (by omega)]; exact hX.2.1, by rw [h2x 7 (by omega)]; exact hX.2.2⟩, hN1, hI.congr (fun a x1 x2 => h3x a (by omega) (by omega)) (fun _ _ => rfl), ⟨⟨π, hk.congr (fun a x1 x2 => h3x a (by omega) (by omega)) rfl⟩, by rw [h3x 3 (by omega) (by omega)]; exact hpn⟩, hC.congr (h3x _ (by omega) (by omega)) (h3x _ (by omega) (by omega)) (h3x _ (by omega) (by omega)), hR.congr (h3x _ (by omega) (by omega)) (h3x _ (by omega) (by omega)), hV.congr (h3x _ (by omega) (by omega)) (h3x _ (by omega) (by omega))⟩ (fun a x => ⟨h3x a (by omega) (by omega), rfl⟩)
theorem C_X_variable {n t : Int32} (h : RC S I P (ns, xs, (ps, pn), ch, (rq, ru))) (hd1 : 4 ≤ d) (K : ∀ (I' : cn_I), RC S I' P ((sp_var ns n t).2, xs, (ps, pn), ch, (rq, ru)) → frX I I' P P → Q (some (.int ((sp_var ns n t).1))) S I' P) : cn_V l en mi_X_variable d 0 0 S I P Q 0 [(0, .ref 0), (1, .int n), (2, .int t)] [] := by
  obtain ⟨hw, hX, hN, hI, hS, hC, hR, hV⟩ := h
  have hX : rX I ns.length xs.length rq := hX
  have hN : rN I ns := hN
  have hI : rI I P xs := hI
  have hS : rS I P ps pn := hS
  have hC : chs I 14 ch := hC
  have hR : rR I ru := hR
  have h01 := hX.1
  have hl16 := hN.1
  have hl6 := hI.1
  have hl195 := hR.2
  have hl64 := hC.2.2.2.2.2.2
  obtain ⟨⟨π, hk⟩, hpn⟩ := hS
  have hl3 := hk.2.1
  have hbt := tn_le (isT t)
  refine cn_iload_n (pc' := 1) (k := 2) rfl rfl d_X_variable_0 rfl ?_
  refine cn_callS (pc' := 4) (kc1 := 0) (ks1 := 0) (kc2 := 0) (ks2 := 0) (rest := []) (lvj := [(0, .int (t))]) [.int (t)] ms_X_82 rfl rfl rfl (Nat.le_of_ble_eq_true rfl) (Nat.le_of_ble_eq_true rfl) (by omega) (by omega) (by omega) d_X_variable_1 rfl ?_
  refine c_X_isVariableType ?_
  show cn_V l en mi_X_variable d 0 0 S I P Q 4 [(0, .ref 0), (1, .int (n)), (2, .int (t))] [.int (nI ((isT t).toNat))]
  refine cn_if_eq_n (tgt := 16) (pc' := 7) (by omega) d_X_variable_4 (by decide) rfl (fun hc4 => ?_) (fun hc4 => ?_)
  · refine cn_iconst (pc' := 17) k_c_m1 d_X_variable_16 rfl ?_
    refine cn_iret rfl d_X_variable_17 ?_
    have e : sp_var ns n t = (-1, ns) := by unfold sp_var; rw [if_neg (by rw [tn_0 hc4]; decide)]
    rw [e] at K
    exact K I ⟨hw, hX, hN, hI, ⟨⟨π, hk⟩, hpn⟩, hC, hR, hV⟩ frX.rf
  · have hT : isT t = true := tn_1 hc4
    refine cn_aload_n (pc' := 8) (k := 0) rfl rfl d_X_variable_7 rfl ?_
    refine cn_iload_n (pc' := 9) (k := 1) rfl rfl d_X_variable_8 rfl ?_
    refine cn_iload_n (pc' := 10) (k := 2) rfl rfl d_X_variable_9 rfl ?_
    refine cn_callV (pc' := 13) (kc1 := 0) (ks1 := 0) (kc2 := 0) (ks2 := 0) (rest := []) (lvj := [(0, .ref 0), (1, .int (n)), (2, .int (t))]) [.int (n), .int (t)] mv_X_78 hw.1 rfl rfl rfl (Nat.le_of_ble_eq_true rfl) (Nat.le_of_ble_eq_true rfl) (by omega) (by omega) (by omega) d_X_variable_10 rfl ?_
    refine c_X_addNode (ns := ns) hw h01 hN (Or.inr hT) (by omega) (fun I1 hN1 h1x h2x h3x => ?_)
    show cn_V l en mi_X_variable d 0 0 S I1 P Q 13 [(0, .ref 0), (1, .int (n)), (2, .int (t))] [.int ((sp_add ns n (t)).1)]
    refine cn_goto (tgt := 17) d_X_variable_13 (by decide) ?_
    refine cn_iret rfl d_X_variable_17 ?_
    have e : sp_var ns n t = sp_add ns n t := by unfold sp_var; rw [if_pos hT]
    rw [e] at K
    exact K I1 ⟨hw, ⟨h1x, by rw [h2x 3 (by omega)]; exact hX.2.1, by rw [h2x 7 (by omega)]; exact hX.2.2⟩, hN1, hI.congr (fun a x1 x2 => h3x a (by omega) (by omega)) (fun _ _ => rfl), ⟨⟨π, hk.congr (fun a x1 x2 => h3x a (by omega) (by omega)) rfl⟩, by rw [h3x 3 (by omega) (by omega)]; exact hpn⟩, hC.congr (h3x _ (by omega) (by omega)) (h3x _ (by omega) (by omega)) (h3x _ (by omega) (by omega)), hR.congr (h3x _ (by omega) (by omega)) (h3x _ (by omega) (by omega)), hV.congr (h3x _ (by omega) (by omega)) (h3x _ (by omega) (by omega))⟩ (fun a x => ⟨h3x a (by omega) (by omega), rfl⟩)
theorem C_X_open (h : RC S I P (ns, xs, (ps, pn), ch, (rq, ru))) (hd1 : 1 ≤ d) (K : ∀ (I' : cn_I), RC S I' P (sp_open (ns, xs, (ps, pn), ch, (rq, ru))) → frX I I' P P → Q none S I' P) : cn_V l en mi_X_open d 0 0 S I P Q 0 [(0, .ref 0)] [] := by
  obtain ⟨hw, hX, hN, hI, hS, hC, hR, hV⟩ := h
  have hX : rX I ns.length xs.length rq := hX
  have hN : rN I ns := hN
  have hI : rI I P xs := hI
  have hS : rS I P ps pn := hS
  have hC : chs I 14 ch := hC
  have hR : rR I ru := hR
  have h01 := hX.1
  have hl16 := hN.1
  have hl6 := hI.1
  have hl195 := hR.2
  have hl64 := hC.2.2.2.2.2.2
  obtain ⟨⟨π, hk⟩, hpn⟩ := hS
  have hl3 := hk.2.1
  refine cn_aload_n (pc' := 1) (k := 0) rfl rfl d_X_open_0 rfl ?_
  refine cn_getP (pc' := 4) (b := 14) hw.2.1.2.2.2.1 fl_X_31 hw.1 rfl d_X_open_1 rfl ?_
  refine cn_callV (pc' := 7) (kc1 := 0) (ks1 := 0) (kc2 := 0) (ks2 := 0) (rest := []) (lvj := [(0, .ref 14)]) [] mv_X_64 hw.ch.1 rfl rfl rfl (Nat.le_of_ble_eq_true rfl) (Nat.le_of_ble_eq_true rfl) (by omega) (by omega) (by omega) d_X_open_4 rfl ?_
  refine c_Ch_restart hw.ch hC (fun I1 hC1 hf1 => ?_)
  show cn_V l en mi_X_open d 0 0 S I1 P Q 7 [(0, .ref 0)] []
  refine cn_aload_n (pc' := 8) (k := 0) rfl rfl d_X_open_7 rfl ?_
  refine cn_iconst (pc' := 9) k_c_0 d_X_open_8 rfl ?_
  refine cn_putI (pc' := 12) fl_X_67 hw.1 rfl rfl rfl rfl d_X_open_9 rfl ?_
  refine cn_aload_n (pc' := 13) (k := 0) rfl rfl d_X_open_12 rfl ?_
  refine cn_getP (pc' := 16) (b := 3) hw.2.1.2.2.1 fl_X_24 hw.1 rfl d_X_open_13 rfl ?_
  refine cn_callV (pc' := 19) (kc1 := 0) (ks1 := 0) (kc2 := 0) (ks2 := 0) (rest := []) (lvj := [(0, .ref 3)]) [] mv_X_70 hw.sf.1 rfl rfl rfl (Nat.le_of_ble_eq_true rfl) (Nat.le_of_ble_eq_true rfl) (by omega) (by omega) (by omega) d_X_open_16 rfl ?_
  refine c_Sf_restart (ps := ps) (π := π) hw.sf (hk.congr (fun a x1 x2 => by rw [cn_wi_ne (by omega)]; exact hf1 a (by omega) (by omega) (by omega)) rfl) (fun I2 hk2 hn2 hf2 => ?_)
  show cn_V l en mi_X_open d 0 0 S I2 P Q 19 [(0, .ref 0)] []
  refine cn_aload_n (pc' := 20) (k := 0) rfl rfl d_X_open_19 rfl ?_
  refine cn_getP (pc' := 23) (b := 18) hw.2.1.2.2.2.2.1 fl_X_40 hw.1 rfl d_X_open_20 rfl ?_
  refine cn_callV (pc' := 26) (kc1 := 0) (ks1 := 0) (kc2 := 0) (ks2 := 0) (rest := []) (lvj := [(0, .ref 18)]) [] mv_X_71 hw.re.1 rfl rfl rfl (Nat.le_of_ble_eq_true rfl) (Nat.le_of_ble_eq_true rfl) (by omega) (by omega) (by omega) d_X_open_23 rfl ?_
  refine c_By_clear (b := 18) (cap := 195) hw.re (fun I3 hy3 hf3 => ?_)
  show cn_V l en mi_X_open d 0 0 S I3 P Q 26 [(0, .ref 0)] []
  refine cn_aload_n (pc' := 27) (k := 0) rfl rfl d_X_open_26 rfl ?_
  refine cn_iconst (pc' := 28) k_c_m1 d_X_open_27 rfl ?_
  refine cn_putI (pc' := 31) fl_X_61 hw.1 rfl rfl rfl rfl d_X_open_28 rfl ?_
  refine cn_vret rfl d_X_open_31 ?_
  have hrow : ∀ a, a ≠ 0 → (a < 3 ∨ 20 ≤ a) → cn_wi I3 0 7 (-1) a = I a := fun a x1 x2 => by rw [cn_wi_ne x1, hf3 a (by omega) (by omega), hf2 a (by omega), cn_wi_ne x1]; exact hf1 a (by omega) (by omega) (by omega)
  have h14 : ∀ a, 14 ≤ a → a < 18 → cn_wi I3 0 7 (-1) a = I1 a := fun a x1 x2 => by rw [cn_wi_ne (by omega), hf3 a (by omega) (by omega), hf2 a (by omega), cn_wi_ne (by omega)]
  have h3 : ∀ a, 3 ≤ a → a < 14 → cn_wi I3 0 7 (-1) a = I2 a := fun a x1 x2 => by rw [cn_wi_ne (by omega), hf3 a (by omega) (by omega)]
  have h0 : ∀ q, q ≠ 7 → q ≠ 3 → cn_wi I3 0 7 (-1) 0 q = I 0 q := fun q x1 x2 => by rw [cn_wi_row, show upd (I3 0) 7 (-1) q = I3 0 q from if_neg x1, hf3 0 (by omega) (by omega), hf2 0 (by omega), cn_wi_row, show upd (I1 0) 3 _ q = I1 0 q from if_neg x2, hf1 0 (by omega) (by omega) (by omega)]
  have K : ∀ (I' : cn_I), RC S I' P (ns, [], ([], nI 0), (true, false, ch.2.2.1, none, ch.2.2.2.2), (-1, [])) → frX I I' P P → Q none S I' P := K
  refine K _ ⟨hw, ⟨by rw [h0 1 (by omega) (by omega)]; exact hX.1, ?_, by simp [cn_wi, upd]⟩, hN.congr (fun a x1 x2 => hrow a (by omega) (by omega)), ⟨Nat.zero_le _, fun i hi => hI.2.1 i hi, fun i hi => absurd hi (Nat.not_lt_zero i)⟩, ⟨⟨π, hk2.congr (fun a x1 x2 => h3 a x1 (by omega)) rfl⟩, by rw [h3 3 (by omega) (by omega)]; exact hn2⟩, hC1.congr (h14 _ (by omega) (by omega)) (h14 _ (by omega) (by omega)) (h14 _ (by omega) (by omega)), ⟨ys_cong1 hy3 (by omega) (by omega), Nat.zero_le _⟩, hV.congr (hrow _ (by omega) (by omega)) (hrow _ (by omega) (by omega))⟩ (fun a x => ⟨hrow a (by omega) (by omega), rfl⟩)
  rw [cn_wi_row, show upd (I3 0) 7 (-1) 3 = I3 0 3 from rfl, hf3 0 (by omega) (by omega), hf2 0 (by omega)]; simp [cn_wi, upd]
end
end
section
theorem RC.row15 {S : cn_S} {I I' : cn_I} {P : cn_P} {s : sSt} (h : RC S I P s) (hf : fr1 I I' 15) : RC S I' P s := by
  obtain ⟨hw, hX, hN, hI, hS, hC, hR, hV⟩ := h
  exact ⟨hw, hX.congr (hf _ (by omega)), hN.congr (fun a x1 x2 => hf a (by omega)), hI.congr (fun a x1 x2 => hf a (by omega)) (fun _ _ => rfl), hS.congr (fun a x1 x2 => hf a (by omega)) rfl, hC.congr (hf _ (by omega)) (hf _ (by omega)) (hf _ (by omega)), hR.congr (hf _ (by omega)) (hf _ (by omega)), hV.congr (hf _ (by omega)) (hf _ (by omega))⟩
theorem RC.reply {S : cn_S} {I I' : cn_I} {P : cn_P} {ns : List sNode} {xs : List sItem} {sh : List sPar × Int32} {ch : sCh} {rq : Int32} {u u' : List Int32} (h : RC S I P (ns, xs, sh, ch, (rq, u))) (hf : fr2 I I' 18) (hy : ys I' 18 u') (hu : u'.length ≤ 195) : RC S I' P (ns, xs, sh, ch, (rq, u')) := by
  obtain ⟨hw, hX, hN, hI, hS, hC, hR, hV⟩ := h
  exact ⟨hw, hX.congr (hf _ (by omega) (by omega)), hN.congr (fun a x1 x2 => hf a (by omega) (by omega)), hI.congr (fun a x1 x2 => hf a (by omega) (by omega)) (fun _ _ => rfl), hS.congr (fun a x1 x2 => hf a (by omega) (by omega)) rfl, hC.congr (hf _ (by omega) (by omega)) (hf _ (by omega) (by omega)) (hf _ (by omega) (by omega)), ⟨hy, hu⟩, hV.congr (hf _ (by omega) (by omega)) (hf _ (by omega) (by omega))⟩
theorem RC.inc {S : cn_S} {I I' : cn_I} {P : cn_P} {s : sSt} {u : List Int32} (h : RC S I P s) (hf : fr2 I I' 20) (hy : ys I' 20 u) (hu : u.length ≤ 61) : RC S I' P s := by
  obtain ⟨hw, hX, hN, hI, hS, hC, hR, hV⟩ := h
  exact ⟨hw, hX.congr (hf _ (by omega) (by omega)), hN.congr (fun a x1 x2 => hf a (by omega) (by omega)), hI.congr (fun a x1 x2 => hf a (by omega) (by omega)) (fun _ _ => rfl), hS.congr (fun a x1 x2 => hf a (by omega) (by omega)) rfl, hC.congr (hf _ (by omega) (by omega)) (hf _ (by omega) (by omega)) (hf _ (by omega) (by omega)), hR.congr (hf _ (by omega) (by omega)) (hf _ (by omega) (by omega)), u, hy, hu⟩
/-- the reader and the value that comes in -/
theorem RC.rdv {S : cn_S} {I I' : cn_I} {P : cn_P} {s : sSt} {u : List Int32} (h : RC S I P s) (hf : fr3 I I' 15 20) (hy : ys I' 20 u) (hu : u.length ≤ 61) : RC S I' P s := by
  obtain ⟨hw, hX, hN, hI, hS, hC, hR, hV⟩ := h
  exact ⟨hw, hX.congr (hf _ (by omega) (by omega) (by omega)), hN.congr (fun a x1 x2 => hf a (by omega) (by omega) (by omega)), hI.congr (fun a x1 x2 => hf a (by omega) (by omega) (by omega)) (fun _ _ => rfl), hS.congr (fun a x1 x2 => hf a (by omega) (by omega) (by omega)) rfl, hC.congr (hf _ (by omega) (by omega) (by omega)) (hf _ (by omega) (by omega) (by omega)) (hf _ (by omega) (by omega) (by omega)), hR.congr (hf _ (by omega) (by omega) (by omega)) (hf _ (by omega) (by omega) (by omega)), u, hy, hu⟩
/-- behind changeValue -/
theorem RC.chg {S : cn_S} {I I' : cn_I} {P P' : cn_P} {ns ns' : List sNode} {xs xs' : List sItem} {sh : List sPar × Int32} {ch : sCh} {rr : Int32 × List Int32} (h : RC S I P (ns, xs, sh, ch, rr)) (hw' : wX S P') (hN' : rN I' ns') (hI' : rI I' P' xs') (hn : ns'.length = ns.length) (hx : xs'.length = xs.length) (hf : ∀ a, a < 23 ∨ 155 ≤ a → I' a = I a) (hP : ∀ a, (∀ i, i < 6 → a ≠ 72 + 14 * i) → P' a = P a) : RC S I' P' (ns', xs', sh, ch, rr) := by
  obtain ⟨hw, hX, hN, hI, hS, hC, hR, hV⟩ := h
  have hX2 : rX I' ns'.length xs'.length rr.1 := by rw [hn, hx]; exact hX.congr (hf _ (by omega))
  exact ⟨hw', hX2, hN', hI', hS.congr (fun a x1 x2 => hf a (by omega)) (hP 4 (fun i hi => by omega)), hC.congr (hf _ (by omega)) (hf _ (by omega)) (hf _ (by omega)), hR.congr (hf _ (by omega)) (hf _ (by omega)), hV.congr (hf _ (by omega)) (hf _ (by omega))⟩
theorem chg_len (ns : List sNode) (xs : List sItem) (k : Nat) (u : List Int32) : (chg ns xs k u).2.1.length = ns.length ∧ (chg ns xs k u).2.2.length = xs.length := by
  unfold chg
  split
  · exact ⟨rfl, rfl⟩
  · exact ⟨List.length_set, List.length_map _⟩
theorem cmp0 {v : Int64} : lg_cmp v 0 = 0 ↔ v = 0 := by
  unfold lg_cmp
  by_cases h1 : (0 : Int64) < v
  · rw [if_pos h1]
    exact ⟨fun h => absurd h (by decide), fun h => by rw [h] at h1; exact absurd h1 (by decide)⟩
  · rw [if_neg h1]
    by_cases h2 : v = 0
    · simp [h2]
    · simp [h2]
theorem pkv_len (t : Int32) (x : Int64) : (pkv t x).length ≤ 61 := by
  unfold pkv
  repeat' split
  all_goals simp [lbs_len]
theorem frX.f2 {I I' : cn_I} {P : cn_P} {b : Nat} (h : fr2 I I' b) (hb : b < 154) : frX I I' P P := fun a x => ⟨h a (by omega) (by omega), rfl⟩
theorem frX.f1 {I I' : cn_I} {P : cn_P} {b : Nat} (h : fr1 I I' b) (hb : b < 155) : frX I I' P P := fun a x => ⟨h a (by omega), rfl⟩
theorem frX.f3 {I I' : cn_I} {P : cn_P} (h : fr3 I I' 15 20) : frX I I' P P := fun a x => ⟨h a (by omega) (by omega) (by omega), rfl⟩
theorem frX.fc {I I' : cn_I} {P P' : cn_P} (hf : ∀ a, a < 23 ∨ 155 ≤ a → I' a = I a) (hP : ∀ a, (∀ i, i < 6 → a ≠ 72 + 14 * i) → P' a = P a) : frX I I' P P' := fun a x => ⟨hf a (Or.inr x), hP a (fun i hi => by omega)⟩
section
variable {l : Launch} {en : cn_E} {d : Nat} {S : cn_S} {I : cn_I} {P : cn_P} {Q : Option Value → cn_S → cn_I → cn_P → Prop}
variable {ns : List sNode} {xs : List sItem} {ps : List sPar} {pn : Int32} {ch : sCh} {rq : Int32} {ru : List Int32}
theorem C_X_poke {n : Int32} {x : Int64} (h : RC S I P (ns, xs, (ps, pn), ch, (rq, ru))) (hd1 : 5 ≤ d) (K : ∀ (I' : cn_I) (P' : cn_P), RC S I' P' ((sp_poke ns xs n x).2.1, (sp_poke ns xs n x).2.2, (ps, pn), ch, (rq, ru)) → frX I I' P P' → Q (some (.int (nI (sp_poke ns xs n x).1.toNat))) S I' P') : cn_V l en mi_X_poke d 0 0 S I P Q 0 [(0, .ref 0), (1, .int n), (2, .long x)] [] := by
  have h9 := h
  obtain ⟨hw, hX, hN, hI, hS, hC, hR, hV⟩ := h
  have hX : rX I ns.length xs.length rq := hX
  have hN : rN I ns := hN
  have hI : rI I P xs := hI
  have hS : rS I P ps pn := hS
  have hC : chs I 14 ch := hC
  have hR : rR I ru := hR
  have h01 := hX.1
  have hl16 := hN.1
  have hl6 := hI.1
  have hl195 := hR.2
  have hl64 := hC.2.2.2.2.2.2
  obtain ⟨⟨π, hk⟩, hpn⟩ := hS
  have hl3 := hk.2.1
  refine cn_aload_n (pc' := 1) (k := 0) rfl rfl d_X_poke_0 rfl ?_
  refine cn_iload_n (pc' := 2) (k := 1) rfl rfl d_X_poke_1 rfl ?_
  refine cn_callV (pc' := 5) (kc1 := 0) (ks1 := 0) (kc2 := 0) (ks2 := 0) (rest := []) (lvj := [(0, .ref 0), (1, .int (n))]) [.int (n)] mv_X_86 hw.1 rfl rfl rfl (Nat.le_of_ble_eq_true rfl) (Nat.le_of_ble_eq_true rfl) (by omega) (by omega) (by omega) d_X_poke_2 rfl ?_
  refine c_X_isVariable (ns := ns) hw h01 hN (by omega) (fun k2 hnk2 hkl2 hv => ?_) (fun hnv => ?_)
  · subst hnk2
    show cn_V l en mi_X_poke d 0 0 S I P Q 5 [(0, .ref 0), (1, .int (nI (k2))), (2, .long (x))] [.int (nI (1))]
    refine cn_if_ne_n (tgt := 10) (pc' := 8) (by omega) d_X_poke_5 (by decide) rfl (fun hc5 => ?_) (fun hc5 => ?_)
    · refine cn_aload_n (pc' := 11) (k := 0) rfl rfl d_X_poke_10 rfl ?_
      refine cn_getP (pc' := 14) (b := 1) hw.2.1.1 fl_X_11 hw.1 rfl d_X_poke_11 rfl ?_
      refine cn_iload_n (pc' := 15) (k := 1) rfl rfl d_X_poke_14 rfl ?_
      refine cn_aald (pc' := 16) (b := (23 + 3 * k2)) hw.2.2.1.1 (by decide) (by decide) rfl (by omega) (by decide) (hw.nd (i := k2) (by omega)).1 d_X_poke_15 rfl ?_
      refine cn_getIv (pc' := 19) (v := (ns.getD k2 nd0).2.1) (hN.2.1 k2 (by omega)).2.1 fl_X_89 (hw.nd (i := k2) (by omega)).2.1 rfl d_X_poke_16 rfl ?_
      refine cn_istore (pc' := 21) (lv' := [(0, .ref 0), (1, .int (nI (k2))), (2, .long (x)), (4, .int ((ns.getD k2 nd0).2.1))]) [1, 2, 3, 0] (Nat.le_of_ble_eq_true rfl) rfl d_X_poke_19 rfl ?_
      refine cn_aload_n (pc' := 22) (k := 0) rfl rfl d_X_poke_21 rfl ?_
      refine cn_getP (pc' := 25) (b := 20) hw.2.1.2.2.2.2.2.1 fl_X_44 hw.1 rfl d_X_poke_22 rfl ?_
      refine cn_callV (pc' := 28) (kc1 := 0) (ks1 := 0) (kc2 := 0) (ks2 := 0) (rest := []) (lvj := [(0, .ref 20)]) [] mv_X_71 hw.ic.1 rfl rfl rfl (Nat.le_of_ble_eq_true rfl) (Nat.le_of_ble_eq_true rfl) (by omega) (by omega) (by omega) d_X_poke_25 rfl ?_
      refine c_By_clear (b := 20) (cap := 61) hw.ic (fun I1 hy1 hf1 => ?_)
      show cn_V l en mi_X_poke d 0 0 S I1 P Q 28 [(0, .ref 0), (1, .int (nI (k2))), (2, .long (x)), (4, .int ((ns.getD k2 nd0).2.1))] []
      refine cn_aload_n (pc' := 29) (k := 0) rfl rfl d_X_poke_28 rfl ?_
      refine cn_getP (pc' := 32) (b := 20) hw.2.1.2.2.2.2.2.1 fl_X_44 hw.1 rfl d_X_poke_29 rfl ?_
      refine cn_iload (pc' := 34) (k := 3) rfl d_X_poke_32 rfl ?_
      refine cn_callV (pc' := 37) (kc1 := 0) (ks1 := 0) (kc2 := 0) (ks2 := 0) (rest := []) (lvj := [(0, .ref 20), (1, .int ((ns.getD k2 nd0).2.1))]) [.int ((ns.getD k2 nd0).2.1)] mv_X_92 hw.ic.1 rfl rfl rfl (Nat.le_of_ble_eq_true rfl) (Nat.le_of_ble_eq_true rfl) (by omega) (by omega) (by omega) d_X_poke_34 rfl ?_
      refine c_By_add (b := 20) (cap := 61) hw.ic hy1 (Nat.zero_le _) (fun I2 hy2 hf2 => ?_)
      have hf12 := hf1.tr hf2
      show cn_V l en mi_X_poke d 0 0 S I2 P Q 37 [(0, .ref 0), (1, .int (nI (k2))), (2, .long (x)), (4, .int ((ns.getD k2 nd0).2.1))] []
      refine cn_iload (pc' := 39) (k := 3) rfl d_X_poke_37 rfl ?_
      by_cases hk39_1 : (ns.getD k2 nd0).2.1 = nI 1
      · refine cn_lookup (tgt := 72) (off := 33) d_X_poke_39 (by decide) (by rw [hk39_1] <;> decide +kernel) (by decide) ?_
        refine cn_aload_n (pc' := 73) (k := 0) rfl rfl d_X_poke_72 rfl ?_
        refine cn_getP (pc' := 76) (b := 20) hw.2.1.2.2.2.2.2.1 fl_X_44 hw.1 rfl d_X_poke_73 rfl ?_
        refine cn_lload_n (pc' := 77) (k := 2) rfl rfl d_X_poke_76 rfl ?_
        refine cn_lconst (pc' := 78) (v := 0) (by decide +kernel) d_X_poke_77 rfl ?_
        refine cn_lcmp (pc' := 79) d_X_poke_78 rfl ?_
        refine cn_if_eq (tgt := 86) (pc' := 82) d_X_poke_79 (by decide) rfl (fun hc79 => ?_) (fun hc79 => ?_)
        · refine cn_iconst (pc' := 87) k_c_0 d_X_poke_86 rfl ?_
          refine cn_callV (pc' := 90) (kc1 := 0) (ks1 := 0) (kc2 := 0) (ks2 := 0) (rest := []) (lvj := [(0, .ref 20), (1, .int (nI (0)))]) [.int (nI (0))] mv_X_92 hw.ic.1 rfl rfl rfl (Nat.le_of_ble_eq_true rfl) (Nat.le_of_ble_eq_true rfl) (by omega) (by omega) (by omega) d_X_poke_87 rfl ?_
          have hy2 : ys I2 20 [(ns.getD k2 nd0).2.1 &&& 255] := hy2
          refine c_By_add (b := 20) (cap := 61) hw.ic hy2 (show 1 ≤ 61 by decide) (fun I3 hy3 hf3 => ?_)
          show cn_V l en mi_X_poke d 0 0 S I3 P Q 90 [(0, .ref 0), (1, .int (nI (k2))), (2, .long (x)), (4, .int ((ns.getD k2 nd0).2.1))] []
          refine cn_goto (tgt := 120) d_X_poke_90 (by decide) ?_
          refine cn_aload_n (pc' := 121) (k := 0) rfl rfl d_X_poke_120 rfl ?_
          refine cn_iload_n (pc' := 122) (k := 1) rfl rfl d_X_poke_121 rfl ?_
          refine cn_callV (pc' := 125) (kc1 := 0) (ks1 := 0) (kc2 := 0) (ks2 := 0) (rest := []) (lvj := [(0, .ref 0), (1, .int (nI (k2)))]) [.int (nI (k2))] mv_X_99 hw.1 rfl rfl rfl (Nat.le_of_ble_eq_true rfl) (Nat.le_of_ble_eq_true rfl) (by omega) (by omega) (by omega) d_X_poke_122 rfl ?_
          have hy4 : ys I3 20 (pkv (ns.getD k2 nd0).2.1 x) := by
            have e : pkv (ns.getD k2 nd0).2.1 x = [nI 1, nI 0] := by unfold pkv; rw [if_pos hk39_1, if_pos (cmp0.mp hc79)]
            rw [e]
            rw [hk39_1] at hy3
            exact hy3
          have hu4 := pkv_len (ns.getD k2 nd0).2.1 x
          have hRC : RC S I3 P (ns, xs, (ps, pn), ch, (rq, ru)) := h9.inc (hf12.tr hf3) hy4 hu4
          obtain ⟨-, hX3, hN3, hI3, -⟩ := id hRC
          refine c_X_changeValue (ns := ns) (xs := xs) hw hX3.1 hN3 hI3 hX3.2.1 hkl2 hy4 hu4 (by omega) (fun I4 P4 hw4 hN4 hI4 hf4 hP4 => ?_)
          show cn_V l en mi_X_poke d 0 0 S I4 P4 Q 125 [(0, .ref 0), (1, .int (nI (k2))), (2, .long (x)), (4, .int ((ns.getD k2 nd0).2.1))] [.int (nI ((chg ns xs k2 (pkv (ns.getD k2 nd0).2.1 x)).1.toNat))]
          refine cn_zret rfl (by cases (chg ns xs k2 (pkv (ns.getD k2 nd0).2.1 x)).1 <;> decide) d_X_poke_125 ?_
          have e : sp_poke ns xs (nI k2) x = chg ns xs k2 (pkv (ns.getD k2 nd0).2.1 x) := by unfold sp_poke; rw [vdx_some hkl2 (by omega) hv]; dsimp only; rw [if_pos (Or.inl hk39_1)]
          rw [e] at K
          exact K I4 P4 (hRC.chg hw4 hN4 hI4 (chg_len _ _ _ _).1 (chg_len _ _ _ _).2 hf4 hP4) ((frX.f2 (hf12.tr hf3) (by omega)).tr (frX.fc hf4 hP4))
        · refine cn_iconst (pc' := 83) k_c_1 d_X_poke_82 rfl ?_
          refine cn_goto (tgt := 87) d_X_poke_83 (by decide) ?_
          refine cn_callV (pc' := 90) (kc1 := 0) (ks1 := 0) (kc2 := 0) (ks2 := 0) (rest := []) (lvj := [(0, .ref 20), (1, .int (nI (1)))]) [.int (nI (1))] mv_X_92 hw.ic.1 rfl rfl rfl (Nat.le_of_ble_eq_true rfl) (Nat.le_of_ble_eq_true rfl) (by omega) (by omega) (by omega) d_X_poke_87 rfl ?_
          have hy2 : ys I2 20 [(ns.getD k2 nd0).2.1 &&& 255] := hy2
          refine c_By_add (b := 20) (cap := 61) hw.ic hy2 (show 1 ≤ 61 by decide) (fun I3 hy3 hf3 => ?_)
          show cn_V l en mi_X_poke d 0 0 S I3 P Q 90 [(0, .ref 0), (1, .int (nI (k2))), (2, .long (x)), (4, .int ((ns.getD k2 nd0).2.1))] []
          refine cn_goto (tgt := 120) d_X_poke_90 (by decide) ?_
          refine cn_aload_n (pc' := 121) (k := 0) rfl rfl d_X_poke_120 rfl ?_
          refine cn_iload_n (pc' := 122) (k := 1) rfl rfl d_X_poke_121 rfl ?_
          refine cn_callV (pc' := 125) (kc1 := 0) (ks1 := 0) (kc2 := 0) (ks2 := 0) (rest := []) (lvj := [(0, .ref 0), (1, .int (nI (k2)))]) [.int (nI (k2))] mv_X_99 hw.1 rfl rfl rfl (Nat.le_of_ble_eq_true rfl) (Nat.le_of_ble_eq_true rfl) (by omega) (by omega) (by omega) d_X_poke_122 rfl ?_
          have hy4 : ys I3 20 (pkv (ns.getD k2 nd0).2.1 x) := by
            have e : pkv (ns.getD k2 nd0).2.1 x = [nI 1, nI 1] := by unfold pkv; rw [if_pos hk39_1, if_neg (fun h => hc79 (cmp0.mpr h))]
            rw [e]
            rw [hk39_1] at hy3
            exact hy3
          have hu4 := pkv_len (ns.getD k2 nd0).2.1 x
          have hRC : RC S I3 P (ns, xs, (ps, pn), ch, (rq, ru)) := h9.inc (hf12.tr hf3) hy4 hu4
          obtain ⟨-, hX3, hN3, hI3, -⟩ := id hRC
          refine c_X_changeValue (ns := ns) (xs := xs) hw hX3.1 hN3 hI3 hX3.2.1 hkl2 hy4 hu4 (by omega) (fun I4 P4 hw4 hN4 hI4 hf4 hP4 => ?_)
          show cn_V l en mi_X_poke d 0 0 S I4 P4 Q 125 [(0, .ref 0), (1, .int (nI (k2))), (2, .long (x)), (4, .int ((ns.getD k2 nd0).2.1))] [.int (nI ((chg ns xs k2 (pkv (ns.getD k2 nd0).2.1 x)).1.toNat))]
          refine cn_zret rfl (by cases (chg ns xs k2 (pkv (ns.getD k2 nd0).2.1 x)).1 <;> decide) d_X_poke_125 ?_
          have e : sp_poke ns xs (nI k2) x = chg ns xs k2 (pkv (ns.getD k2 nd0).2.1 x) := by unfold sp_poke; rw [vdx_some hkl2 (by omega) hv]; dsimp only; rw [if_pos (Or.inl hk39_1)]
          rw [e] at K
          exact K I4 P4 (hRC.chg hw4 hN4 hI4 (chg_len _ _ _ _).1 (chg_len _ _ _ _).2 hf4 hP4) ((frX.f2 (hf12.tr hf3) (by omega)).tr (frX.fc hf4 hP4))
      by_cases hk39_6 : (ns.getD k2 nd0).2.1 = nI 6
      · refine cn_lookup (tgt := 93) (off := 54) d_X_poke_39 (by decide) (by rw [hk39_6] <;> decide +kernel) (by decide) ?_
        refine cn_aload_n (pc' := 94) (k := 0) rfl rfl d_X_poke_93 rfl ?_
        refine cn_getP (pc' := 97) (b := 20) hw.2.1.2.2.2.2.2.1 fl_X_44 hw.1 rfl d_X_poke_94 rfl ?_
        refine cn_lload_n (pc' := 98) (k := 2) rfl rfl d_X_poke_97 rfl ?_
        refine cn_iconst (pc' := 99) k_c_4 d_X_poke_98 rfl ?_
        refine cn_callV (pc' := 102) (kc1 := 0) (ks1 := 0) (kc2 := 0) (ks2 := 0) (rest := []) (lvj := [(0, .ref 20), (1, .long (x)), (3, .int (nI (4)))]) [.long (x), .int (nI (4))] mv_X_95 hw.ic.1 rfl rfl rfl (Nat.le_of_ble_eq_true rfl) (Nat.le_of_ble_eq_true rfl) (by omega) (by omega) (by omega) d_X_poke_99 rfl ?_
        have hy2 : ys I2 20 [(ns.getD k2 nd0).2.1 &&& 255] := hy2
        refine c_By_addNumber (b := 20) (cap := 61) hw.ic hy2 (show 1 ≤ 61 by decide) (by omega) (by omega) (fun I3 hy3 hf3 => ?_)
        show cn_V l en mi_X_poke d 0 0 S I3 P Q 102 [(0, .ref 0), (1, .int (nI (k2))), (2, .long (x)), (4, .int ((ns.getD k2 nd0).2.1))] []
        refine cn_goto (tgt := 120) d_X_poke_102 (by decide) ?_
        refine cn_aload_n (pc' := 121) (k := 0) rfl rfl d_X_poke_120 rfl ?_
        refine cn_iload_n (pc' := 122) (k := 1) rfl rfl d_X_poke_121 rfl ?_
        refine cn_callV (pc' := 125) (kc1 := 0) (ks1 := 0) (kc2 := 0) (ks2 := 0) (rest := []) (lvj := [(0, .ref 0), (1, .int (nI (k2)))]) [.int (nI (k2))] mv_X_99 hw.1 rfl rfl rfl (Nat.le_of_ble_eq_true rfl) (Nat.le_of_ble_eq_true rfl) (by omega) (by omega) (by omega) d_X_poke_122 rfl ?_
        have hy4 : ys I3 20 (pkv (ns.getD k2 nd0).2.1 x) := by
          have e : pkv (ns.getD k2 nd0).2.1 x = nI 6 :: lbs x 4 := by unfold pkv; rw [if_neg hk39_1, if_pos hk39_6]
          rw [e]
          rw [hk39_6] at hy3
          exact hy3
        have hu4 := pkv_len (ns.getD k2 nd0).2.1 x
        have hRC : RC S I3 P (ns, xs, (ps, pn), ch, (rq, ru)) := h9.inc (hf12.tr hf3) hy4 hu4
        obtain ⟨-, hX3, hN3, hI3, -⟩ := id hRC
        refine c_X_changeValue (ns := ns) (xs := xs) hw hX3.1 hN3 hI3 hX3.2.1 hkl2 hy4 hu4 (by omega) (fun I4 P4 hw4 hN4 hI4 hf4 hP4 => ?_)
        show cn_V l en mi_X_poke d 0 0 S I4 P4 Q 125 [(0, .ref 0), (1, .int (nI (k2))), (2, .long (x)), (4, .int ((ns.getD k2 nd0).2.1))] [.int (nI ((chg ns xs k2 (pkv (ns.getD k2 nd0).2.1 x)).1.toNat))]
        refine cn_zret rfl (by cases (chg ns xs k2 (pkv (ns.getD k2 nd0).2.1 x)).1 <;> decide) d_X_poke_125 ?_
        have e : sp_poke ns xs (nI k2) x = chg ns xs k2 (pkv (ns.getD k2 nd0).2.1 x) := by unfold sp_poke; rw [vdx_some hkl2 (by omega) hv]; dsimp only; rw [if_pos (Or.inr (Or.inl hk39_6))]
        rw [e] at K
        exact K I4 P4 (hRC.chg hw4 hN4 hI4 (chg_len _ _ _ _).1 (chg_len _ _ _ _).2 hf4 hP4) ((frX.f2 (hf12.tr hf3) (by omega)).tr (frX.fc hf4 hP4))
      by_cases hk39_8 : (ns.getD k2 nd0).2.1 = nI 8
      · refine cn_lookup (tgt := 105) (off := 66) d_X_poke_39 (by decide) (by rw [hk39_8] <;> decide +kernel) (by decide) ?_
        refine cn_aload_n (pc' := 106) (k := 0) rfl rfl d_X_poke_105 rfl ?_
        refine cn_getP (pc' := 109) (b := 20) hw.2.1.2.2.2.2.2.1 fl_X_44 hw.1 rfl d_X_poke_106 rfl ?_
        refine cn_lload_n (pc' := 110) (k := 2) rfl rfl d_X_poke_109 rfl ?_
        refine cn_bipush (pc' := 112) k_b_8 d_X_poke_110 rfl ?_
        refine cn_callV (pc' := 115) (kc1 := 0) (ks1 := 0) (kc2 := 0) (ks2 := 0) (rest := []) (lvj := [(0, .ref 20), (1, .long (x)), (3, .int (nI (8)))]) [.long (x), .int (nI (8))] mv_X_95 hw.ic.1 rfl rfl rfl (Nat.le_of_ble_eq_true rfl) (Nat.le_of_ble_eq_true rfl) (by omega) (by omega) (by omega) d_X_poke_112 rfl ?_
        have hy2 : ys I2 20 [(ns.getD k2 nd0).2.1 &&& 255] := hy2
        refine c_By_addNumber (b := 20) (cap := 61) hw.ic hy2 (show 1 ≤ 61 by decide) (by omega) (by omega) (fun I3 hy3 hf3 => ?_)
        show cn_V l en mi_X_poke d 0 0 S I3 P Q 115 [(0, .ref 0), (1, .int (nI (k2))), (2, .long (x)), (4, .int ((ns.getD k2 nd0).2.1))] []
        refine cn_goto (tgt := 120) d_X_poke_115 (by decide) ?_
        refine cn_aload_n (pc' := 121) (k := 0) rfl rfl d_X_poke_120 rfl ?_
        refine cn_iload_n (pc' := 122) (k := 1) rfl rfl d_X_poke_121 rfl ?_
        refine cn_callV (pc' := 125) (kc1 := 0) (ks1 := 0) (kc2 := 0) (ks2 := 0) (rest := []) (lvj := [(0, .ref 0), (1, .int (nI (k2)))]) [.int (nI (k2))] mv_X_99 hw.1 rfl rfl rfl (Nat.le_of_ble_eq_true rfl) (Nat.le_of_ble_eq_true rfl) (by omega) (by omega) (by omega) d_X_poke_122 rfl ?_
        have hy4 : ys I3 20 (pkv (ns.getD k2 nd0).2.1 x) := by
          have e : pkv (ns.getD k2 nd0).2.1 x = nI 8 :: lbs x 8 := by unfold pkv; rw [if_neg hk39_1, if_neg hk39_6]
          rw [e]
          rw [hk39_8] at hy3
          exact hy3
        have hu4 := pkv_len (ns.getD k2 nd0).2.1 x
        have hRC : RC S I3 P (ns, xs, (ps, pn), ch, (rq, ru)) := h9.inc (hf12.tr hf3) hy4 hu4
        obtain ⟨-, hX3, hN3, hI3, -⟩ := id hRC
        refine c_X_changeValue (ns := ns) (xs := xs) hw hX3.1 hN3 hI3 hX3.2.1 hkl2 hy4 hu4 (by omega) (fun I4 P4 hw4 hN4 hI4 hf4 hP4 => ?_)
        show cn_V l en mi_X_poke d 0 0 S I4 P4 Q 125 [(0, .ref 0), (1, .int (nI (k2))), (2, .long (x)), (4, .int ((ns.getD k2 nd0).2.1))] [.int (nI ((chg ns xs k2 (pkv (ns.getD k2 nd0).2.1 x)).1.toNat))]
        refine cn_zret rfl (by cases (chg ns xs k2 (pkv (ns.getD k2 nd0).2.1 x)).1 <;> decide) d_X_poke_125 ?_
        have e : sp_poke ns xs (nI k2) x = chg ns xs k2 (pkv (ns.getD k2 nd0).2.1 x) := by unfold sp_poke; rw [vdx_some hkl2 (by omega) hv]; dsimp only; rw [if_pos (Or.inr (Or.inr hk39_8))]
        rw [e] at K
        exact K I4 P4 (hRC.chg hw4 hN4 hI4 (chg_len _ _ _ _).1 (chg_len _ _ _ _).2 hf4 hP4) ((frX.f2 (hf12.tr hf3) (by omega)).tr (frX.fc hf4 hP4))
      · refine cn_lookup (tgt := 118) (off := 79) d_X_poke_39 (by decide) (by rw [show (#[(1, 33), (6, 54), (8, 66)] : Array (Int × Int)).toList = [(1, 33), (6, 54), (8, 66)] from rfl, lv_osw hk39_1 (by decide +kernel), lv_osw hk39_6 (by decide +kernel), lv_osw hk39_8 (by decide +kernel)] <;> rfl) (by decide) ?_
        refine cn_iconst (pc' := 119) k_c_0 d_X_poke_118 rfl ?_
        refine cn_zret rfl (Or.inl rfl) d_X_poke_119 ?_
        have e : sp_poke ns xs (nI k2) x = (false, ns, xs) := by unfold sp_poke; rw [vdx_some hkl2 (by omega) hv]; dsimp only; rw [if_neg (fun h => h.elim hk39_1 (fun h => h.elim hk39_6 hk39_8))]
        rw [e] at K
        exact K I2 P (h9.inc hf12 hy2 (show 1 ≤ 61 by decide)) (frX.f2 hf12 (by omega))
    · exact False.elim (by omega)
  · show cn_V l en mi_X_poke d 0 0 S I P Q 5 [(0, .ref 0), (1, .int (n)), (2, .long (x))] [.int (nI (0))]
    refine cn_if_ne_n (tgt := 10) (pc' := 8) (by omega) d_X_poke_5 (by decide) rfl (fun hc5 => ?_) (fun hc5 => ?_)
    · exact False.elim (by omega)
    · refine cn_iconst (pc' := 9) k_c_0 d_X_poke_8 rfl ?_
      refine cn_zret rfl (Or.inl rfl) d_X_poke_9 ?_
      have e : sp_poke ns xs n x = (false, ns, xs) := by unfold sp_poke; rw [hnv]
      rw [e] at K
      exact K I P h9 frX.rf
end
end
