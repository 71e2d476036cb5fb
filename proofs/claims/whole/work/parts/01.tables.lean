-- ===== PART A: goes FIRST, ahead of the names: the tables' words, and 'selects' of the private methods out of them =====
/-- a private method of a class that the tables say can be made, by its rows of tables_1 -/
def lw_okq (q : MethodName × Nat) : Prop := (q.1.cls ≠ "java/lang/invoke/MethodHandle" ∧ q.1.cls ≠ "java/lang/invoke/VarHandle") ∧ Cond.instantiable q.1.cls q.2 ∈ tables_1 ∧ Cond.privateMethod q.1 ∈ tables_1 ∧ Cond.instanceMethod q.1 ∈ tables_1
theorem lw_p0 : lw_okq (⟨"ChunkedNodes", "addNode", "(II)I"⟩, 10) := ⟨⟨by decide +kernel, by decide +kernel⟩, List.mem_of_getElem? (i := 14) (by decide +kernel), List.mem_of_getElem? (i := 264) (by decide +kernel), List.mem_of_getElem? (i := 265) (by decide +kernel)⟩
theorem lw_p1 : lw_okq (⟨"ChunkedNodes", "isNode", "(I)Z"⟩, 10) := ⟨⟨by decide +kernel, by decide +kernel⟩, List.mem_of_getElem? (i := 14) (by decide +kernel), List.mem_of_getElem? (i := 268) (by decide +kernel), List.mem_of_getElem? (i := 269) (by decide +kernel)⟩
theorem lw_p2 : lw_okq (⟨"ChunkedNodes", "isVariable", "(I)Z"⟩, 10) := ⟨⟨by decide +kernel, by decide +kernel⟩, List.mem_of_getElem? (i := 14) (by decide +kernel), List.mem_of_getElem? (i := 272) (by decide +kernel), List.mem_of_getElem? (i := 273) (by decide +kernel)⟩
theorem lw_p3 : lw_okq (⟨"ChunkedNodes", "changeValue", "(I)Z"⟩, 10) := ⟨⟨by decide +kernel, by decide +kernel⟩, List.mem_of_getElem? (i := 14) (by decide +kernel), List.mem_of_getElem? (i := 289) (by decide +kernel), List.mem_of_getElem? (i := 290) (by decide +kernel)⟩
theorem lw_p4 : lw_okq (⟨"ChunkedNodes$Item", "discard", "()V"⟩, 5) := ⟨⟨by decide +kernel, by decide +kernel⟩, List.mem_of_getElem? (i := 152) (by decide +kernel), List.mem_of_getElem? (i := 311) (by decide +kernel), List.mem_of_getElem? (i := 312) (by decide +kernel)⟩
theorem lw_p5 : lw_okq (⟨"ChunkedNodes$Channel", "isNext", "(I)Z"⟩, 7) := ⟨⟨by decide +kernel, by decide +kernel⟩, List.mem_of_getElem? (i := 79) (by decide +kernel), List.mem_of_getElem? (i := 329) (by decide +kernel), List.mem_of_getElem? (i := 330) (by decide +kernel)⟩
theorem lw_p6 : lw_okq (⟨"ChunkedNodes", "serve", "(LChunkedNodes$Message;)I"⟩, 10) := ⟨⟨by decide +kernel, by decide +kernel⟩, List.mem_of_getElem? (i := 14) (by decide +kernel), List.mem_of_getElem? (i := 343) (by decide +kernel), List.mem_of_getElem? (i := 344) (by decide +kernel)⟩
theorem lw_p7 : lw_okq (⟨"ChunkedNodes", "serveRead", "(LChunkedNodes$Message;)I"⟩, 10) := ⟨⟨by decide +kernel, by decide +kernel⟩, List.mem_of_getElem? (i := 14) (by decide +kernel), List.mem_of_getElem? (i := 359) (by decide +kernel), List.mem_of_getElem? (i := 360) (by decide +kernel)⟩
theorem lw_p8 : lw_okq (⟨"ChunkedNodes", "checkVariable", "(I)I"⟩, 10) := ⟨⟨by decide +kernel, by decide +kernel⟩, List.mem_of_getElem? (i := 14) (by decide +kernel), List.mem_of_getElem? (i := 373) (by decide +kernel), List.mem_of_getElem? (i := 374) (by decide +kernel)⟩
theorem lw_p9 : lw_okq (⟨"ChunkedNodes", "serveWrite", "(LChunkedNodes$Message;)I"⟩, 10) := ⟨⟨by decide +kernel, by decide +kernel⟩, List.mem_of_getElem? (i := 14) (by decide +kernel), List.mem_of_getElem? (i := 377) (by decide +kernel), List.mem_of_getElem? (i := 378) (by decide +kernel)⟩
theorem lw_p10 : lw_okq (⟨"ChunkedNodes$Message", "readValue", "(LChunkedNodes$Bytes;I)V"⟩, 3) := ⟨⟨by decide +kernel, by decide +kernel⟩, List.mem_of_getElem? (i := 85) (by decide +kernel), List.mem_of_getElem? (i := 381) (by decide +kernel), List.mem_of_getElem? (i := 382) (by decide +kernel)⟩
theorem lw_p11 : lw_okq (⟨"ChunkedNodes$Message", "moveBytes", "(LChunkedNodes$Bytes;I)V"⟩, 3) := ⟨⟨by decide +kernel, by decide +kernel⟩, List.mem_of_getElem? (i := 85) (by decide +kernel), List.mem_of_getElem? (i := 386) (by decide +kernel), List.mem_of_getElem? (i := 387) (by decide +kernel)⟩
theorem lw_p12 : lw_okq (⟨"ChunkedNodes$Message", "readText", "(LChunkedNodes$Bytes;)V"⟩, 3) := ⟨⟨by decide +kernel, by decide +kernel⟩, List.mem_of_getElem? (i := 85) (by decide +kernel), List.mem_of_getElem? (i := 390) (by decide +kernel), List.mem_of_getElem? (i := 391) (by decide +kernel)⟩
theorem lw_p13 : lw_okq (⟨"ChunkedNodes$Message", "readList", "(LChunkedNodes$Bytes;I)V"⟩, 3) := ⟨⟨by decide +kernel, by decide +kernel⟩, List.mem_of_getElem? (i := 85) (by decide +kernel), List.mem_of_getElem? (i := 399) (by decide +kernel), List.mem_of_getElem? (i := 400) (by decide +kernel)⟩
theorem lw_p14 : lw_okq (⟨"ChunkedNodes", "serveBrowse", "(LChunkedNodes$Message;)I"⟩, 10) := ⟨⟨by decide +kernel, by decide +kernel⟩, List.mem_of_getElem? (i := 14) (by decide +kernel), List.mem_of_getElem? (i := 408) (by decide +kernel), List.mem_of_getElem? (i := 409) (by decide +kernel)⟩
theorem lw_p15 : lw_okq (⟨"ChunkedNodes", "replyParent", "(I)V"⟩, 10) := ⟨⟨by decide +kernel, by decide +kernel⟩, List.mem_of_getElem? (i := 14) (by decide +kernel), List.mem_of_getElem? (i := 412) (by decide +kernel), List.mem_of_getElem? (i := 413) (by decide +kernel)⟩
def lw_privs_1 : List (MethodName × Nat) := [(⟨"ChunkedNodes", "addNode", "(II)I"⟩, 10), (⟨"ChunkedNodes", "isNode", "(I)Z"⟩, 10), (⟨"ChunkedNodes", "isVariable", "(I)Z"⟩, 10), (⟨"ChunkedNodes", "changeValue", "(I)Z"⟩, 10), (⟨"ChunkedNodes$Item", "discard", "()V"⟩, 5), (⟨"ChunkedNodes$Channel", "isNext", "(I)Z"⟩, 7), (⟨"ChunkedNodes", "serve", "(LChunkedNodes$Message;)I"⟩, 10), (⟨"ChunkedNodes", "serveRead", "(LChunkedNodes$Message;)I"⟩, 10), (⟨"ChunkedNodes", "checkVariable", "(I)I"⟩, 10), (⟨"ChunkedNodes", "serveWrite", "(LChunkedNodes$Message;)I"⟩, 10), (⟨"ChunkedNodes$Message", "readValue", "(LChunkedNodes$Bytes;I)V"⟩, 3), (⟨"ChunkedNodes$Message", "moveBytes", "(LChunkedNodes$Bytes;I)V"⟩, 3), (⟨"ChunkedNodes$Message", "readText", "(LChunkedNodes$Bytes;)V"⟩, 3), (⟨"ChunkedNodes$Message", "readList", "(LChunkedNodes$Bytes;I)V"⟩, 3), (⟨"ChunkedNodes", "serveBrowse", "(LChunkedNodes$Message;)I"⟩, 10), (⟨"ChunkedNodes", "replyParent", "(I)V"⟩, 10)]
theorem lw_r1 : ∀ q ∈ lw_privs_1, lw_okq q := List.forall_mem_cons.mpr ⟨lw_p0, List.forall_mem_cons.mpr ⟨lw_p1, List.forall_mem_cons.mpr ⟨lw_p2, List.forall_mem_cons.mpr ⟨lw_p3, List.forall_mem_cons.mpr ⟨lw_p4, List.forall_mem_cons.mpr ⟨lw_p5, List.forall_mem_cons.mpr ⟨lw_p6, List.forall_mem_cons.mpr ⟨lw_p7, List.forall_mem_cons.mpr ⟨lw_p8, List.forall_mem_cons.mpr ⟨lw_p9, List.forall_mem_cons.mpr ⟨lw_p10, List.forall_mem_cons.mpr ⟨lw_p11, List.forall_mem_cons.mpr ⟨lw_p12, List.forall_mem_cons.mpr ⟨lw_p13, List.forall_mem_cons.mpr ⟨lw_p14, List.forall_mem_cons.mpr ⟨lw_p15, fun _ h => absurd h List.not_mem_nil⟩⟩⟩⟩⟩⟩⟩⟩⟩⟩⟩⟩⟩⟩⟩⟩
theorem lw_p16 : lw_okq (⟨"ChunkedNodes", "replyName", "(I)V"⟩, 10) := ⟨⟨by decide +kernel, by decide +kernel⟩, List.mem_of_getElem? (i := 14) (by decide +kernel), List.mem_of_getElem? (i := 416) (by decide +kernel), List.mem_of_getElem? (i := 417) (by decide +kernel)⟩
theorem lw_p17 : lw_okq (⟨"ChunkedNodes", "replyChildren", "(I)V"⟩, 10) := ⟨⟨by decide +kernel, by decide +kernel⟩, List.mem_of_getElem? (i := 14) (by decide +kernel), List.mem_of_getElem? (i := 424) (by decide +kernel), List.mem_of_getElem? (i := 425) (by decide +kernel)⟩
theorem lw_p18 : lw_okq (⟨"ChunkedNodes", "serveWatch", "(LChunkedNodes$Message;)I"⟩, 10) := ⟨⟨by decide +kernel, by decide +kernel⟩, List.mem_of_getElem? (i := 14) (by decide +kernel), List.mem_of_getElem? (i := 428) (by decide +kernel), List.mem_of_getElem? (i := 429) (by decide +kernel)⟩
theorem lw_p19 : lw_okq (⟨"ChunkedNodes", "servePublish", "(LChunkedNodes$Message;)I"⟩, 10) := ⟨⟨by decide +kernel, by decide +kernel⟩, List.mem_of_getElem? (i := 14) (by decide +kernel), List.mem_of_getElem? (i := 440) (by decide +kernel), List.mem_of_getElem? (i := 441) (by decide +kernel)⟩
theorem lw_p20 : lw_okq (⟨"ChunkedNodes$Shelf", "removeAt", "(I)V"⟩, 3) := ⟨⟨by decide +kernel, by decide +kernel⟩, List.mem_of_getElem? (i := 26) (by decide +kernel), List.mem_of_getElem? (i := 453) (by decide +kernel), List.mem_of_getElem? (i := 454) (by decide +kernel)⟩
theorem lw_p21 : lw_okq (⟨"ChunkedNodes", "countNotices", "()I"⟩, 10) := ⟨⟨by decide +kernel, by decide +kernel⟩, List.mem_of_getElem? (i := 14) (by decide +kernel), List.mem_of_getElem? (i := 457) (by decide +kernel), List.mem_of_getElem? (i := 458) (by decide +kernel)⟩
theorem lw_p22 : lw_okq (⟨"ChunkedNodes", "moveNotices", "(LChunkedNodes$Bytes;I)V"⟩, 10) := ⟨⟨by decide +kernel, by decide +kernel⟩, List.mem_of_getElem? (i := 14) (by decide +kernel), List.mem_of_getElem? (i := 467) (by decide +kernel), List.mem_of_getElem? (i := 468) (by decide +kernel)⟩
theorem lw_p23 : lw_okq (⟨"ChunkedNodes", "serveAgain", "(LChunkedNodes$Message;)I"⟩, 10) := ⟨⟨by decide +kernel, by decide +kernel⟩, List.mem_of_getElem? (i := 14) (by decide +kernel), List.mem_of_getElem? (i := 472) (by decide +kernel), List.mem_of_getElem? (i := 473) (by decide +kernel)⟩
theorem lw_p24 : lw_okq (⟨"ChunkedNodesModel", "make", "(IZI)I"⟩, 37) := ⟨⟨by decide +kernel, by decide +kernel⟩, List.mem_of_getElem? (i := 509) (by decide +kernel), List.mem_of_getElem? (i := 640) (by decide +kernel), List.mem_of_getElem? (i := 641) (by decide +kernel)⟩
theorem lw_p25 : lw_okq (⟨"ChunkedNodesModel", "isNode", "(I)Z"⟩, 37) := ⟨⟨by decide +kernel, by decide +kernel⟩, List.mem_of_getElem? (i := 509) (by decide +kernel), List.mem_of_getElem? (i := 644) (by decide +kernel), List.mem_of_getElem? (i := 645) (by decide +kernel)⟩
theorem lw_p26 : lw_okq (⟨"ChunkedNodesModel", "startNumber", "(IJI)V"⟩, 37) := ⟨⟨by decide +kernel, by decide +kernel⟩, List.mem_of_getElem? (i := 509) (by decide +kernel), List.mem_of_getElem? (i := 653) (by decide +kernel), List.mem_of_getElem? (i := 654) (by decide +kernel)⟩
theorem lw_p27 : lw_okq (⟨"ChunkedNodesModel", "isVariable", "(I)Z"⟩, 37) := ⟨⟨by decide +kernel, by decide +kernel⟩, List.mem_of_getElem? (i := 509) (by decide +kernel), List.mem_of_getElem? (i := 662) (by decide +kernel), List.mem_of_getElem? (i := 663) (by decide +kernel)⟩
theorem lw_p28 : lw_okq (⟨"ChunkedNodesModel", "become", "(I)Z"⟩, 37) := ⟨⟨by decide +kernel, by decide +kernel⟩, List.mem_of_getElem? (i := 509) (by decide +kernel), List.mem_of_getElem? (i := 666) (by decide +kernel), List.mem_of_getElem? (i := 667) (by decide +kernel)⟩
theorem lw_p29 : lw_okq (⟨"ChunkedNodesModel", "tell", "(II)V"⟩, 37) := ⟨⟨by decide +kernel, by decide +kernel⟩, List.mem_of_getElem? (i := 509) (by decide +kernel), List.mem_of_getElem? (i := 670) (by decide +kernel), List.mem_of_getElem? (i := 671) (by decide +kernel)⟩
theorem lw_p30 : lw_okq (⟨"ChunkedNodesModel", "dropFirst", "(I)V"⟩, 37) := ⟨⟨by decide +kernel, by decide +kernel⟩, List.mem_of_getElem? (i := 509) (by decide +kernel), List.mem_of_getElem? (i := 674) (by decide +kernel), List.mem_of_getElem? (i := 675) (by decide +kernel)⟩
theorem lw_p31 : lw_okq (⟨"ChunkedNodesModel", "copyNotice", "(II)V"⟩, 37) := ⟨⟨by decide +kernel, by decide +kernel⟩, List.mem_of_getElem? (i := 509) (by decide +kernel), List.mem_of_getElem? (i := 678) (by decide +kernel), List.mem_of_getElem? (i := 679) (by decide +kernel)⟩
def lw_privs_2 : List (MethodName × Nat) := [(⟨"ChunkedNodes", "replyName", "(I)V"⟩, 10), (⟨"ChunkedNodes", "replyChildren", "(I)V"⟩, 10), (⟨"ChunkedNodes", "serveWatch", "(LChunkedNodes$Message;)I"⟩, 10), (⟨"ChunkedNodes", "servePublish", "(LChunkedNodes$Message;)I"⟩, 10), (⟨"ChunkedNodes$Shelf", "removeAt", "(I)V"⟩, 3), (⟨"ChunkedNodes", "countNotices", "()I"⟩, 10), (⟨"ChunkedNodes", "moveNotices", "(LChunkedNodes$Bytes;I)V"⟩, 10), (⟨"ChunkedNodes", "serveAgain", "(LChunkedNodes$Message;)I"⟩, 10), (⟨"ChunkedNodesModel", "make", "(IZI)I"⟩, 37), (⟨"ChunkedNodesModel", "isNode", "(I)Z"⟩, 37), (⟨"ChunkedNodesModel", "startNumber", "(IJI)V"⟩, 37), (⟨"ChunkedNodesModel", "isVariable", "(I)Z"⟩, 37), (⟨"ChunkedNodesModel", "become", "(I)Z"⟩, 37), (⟨"ChunkedNodesModel", "tell", "(II)V"⟩, 37), (⟨"ChunkedNodesModel", "dropFirst", "(I)V"⟩, 37), (⟨"ChunkedNodesModel", "copyNotice", "(II)V"⟩, 37)]
theorem lw_r2 : ∀ q ∈ lw_privs_2, lw_okq q := List.forall_mem_cons.mpr ⟨lw_p16, List.forall_mem_cons.mpr ⟨lw_p17, List.forall_mem_cons.mpr ⟨lw_p18, List.forall_mem_cons.mpr ⟨lw_p19, List.forall_mem_cons.mpr ⟨lw_p20, List.forall_mem_cons.mpr ⟨lw_p21, List.forall_mem_cons.mpr ⟨lw_p22, List.forall_mem_cons.mpr ⟨lw_p23, List.forall_mem_cons.mpr ⟨lw_p24, List.forall_mem_cons.mpr ⟨lw_p25, List.forall_mem_cons.mpr ⟨lw_p26, List.forall_mem_cons.mpr ⟨lw_p27, List.forall_mem_cons.mpr ⟨lw_p28, List.forall_mem_cons.mpr ⟨lw_p29, List.forall_mem_cons.mpr ⟨lw_p30, List.forall_mem_cons.mpr ⟨lw_p31, fun _ h => absurd h List.not_mem_nil⟩⟩⟩⟩⟩⟩⟩⟩⟩⟩⟩⟩⟩⟩⟩⟩
theorem lw_p32 : lw_okq (⟨"ChunkedNodesModel", "append", "(III)V"⟩, 37) := ⟨⟨by decide +kernel, by decide +kernel⟩, List.mem_of_getElem? (i := 509) (by decide +kernel), List.mem_of_getElem? (i := 682) (by decide +kernel), List.mem_of_getElem? (i := 683) (by decide +kernel)⟩
theorem lw_p33 : lw_okq (⟨"ChunkedNodesModel", "follows", "(I)Z"⟩, 37) := ⟨⟨by decide +kernel, by decide +kernel⟩, List.mem_of_getElem? (i := 509) (by decide +kernel), List.mem_of_getElem? (i := 690) (by decide +kernel), List.mem_of_getElem? (i := 691) (by decide +kernel)⟩
theorem lw_p34 : lw_okq (⟨"ChunkedNodesModel", "reply", "()V"⟩, 37) := ⟨⟨by decide +kernel, by decide +kernel⟩, List.mem_of_getElem? (i := 509) (by decide +kernel), List.mem_of_getElem? (i := 694) (by decide +kernel), List.mem_of_getElem? (i := 695) (by decide +kernel)⟩
theorem lw_p35 : lw_okq (⟨"ChunkedNodesModel", "code", "(I)V"⟩, 37) := ⟨⟨by decide +kernel, by decide +kernel⟩, List.mem_of_getElem? (i := 509) (by decide +kernel), List.mem_of_getElem? (i := 698) (by decide +kernel), List.mem_of_getElem? (i := 699) (by decide +kernel)⟩
theorem lw_p36 : lw_okq (⟨"ChunkedNodesModel", "say", "(I)V"⟩, 37) := ⟨⟨by decide +kernel, by decide +kernel⟩, List.mem_of_getElem? (i := 509) (by decide +kernel), List.mem_of_getElem? (i := 702) (by decide +kernel), List.mem_of_getElem? (i := 703) (by decide +kernel)⟩
theorem lw_p37 : lw_okq (⟨"ChunkedNodesModel", "next", "()I"⟩, 37) := ⟨⟨by decide +kernel, by decide +kernel⟩, List.mem_of_getElem? (i := 509) (by decide +kernel), List.mem_of_getElem? (i := 706) (by decide +kernel), List.mem_of_getElem? (i := 707) (by decide +kernel)⟩
theorem lw_p38 : lw_okq (⟨"ChunkedNodesModel", "read", "()V"⟩, 37) := ⟨⟨by decide +kernel, by decide +kernel⟩, List.mem_of_getElem? (i := 509) (by decide +kernel), List.mem_of_getElem? (i := 710) (by decide +kernel), List.mem_of_getElem? (i := 711) (by decide +kernel)⟩
theorem lw_p39 : lw_okq (⟨"ChunkedNodesModel", "readName", "()V"⟩, 37) := ⟨⟨by decide +kernel, by decide +kernel⟩, List.mem_of_getElem? (i := 509) (by decide +kernel), List.mem_of_getElem? (i := 714) (by decide +kernel), List.mem_of_getElem? (i := 715) (by decide +kernel)⟩
theorem lw_p40 : lw_okq (⟨"ChunkedNodesModel", "number", "(I)I"⟩, 37) := ⟨⟨by decide +kernel, by decide +kernel⟩, List.mem_of_getElem? (i := 509) (by decide +kernel), List.mem_of_getElem? (i := 718) (by decide +kernel), List.mem_of_getElem? (i := 719) (by decide +kernel)⟩
theorem lw_p41 : lw_okq (⟨"ChunkedNodesModel", "whole", "()Z"⟩, 37) := ⟨⟨by decide +kernel, by decide +kernel⟩, List.mem_of_getElem? (i := 509) (by decide +kernel), List.mem_of_getElem? (i := 722) (by decide +kernel), List.mem_of_getElem? (i := 723) (by decide +kernel)⟩
theorem lw_p42 : lw_okq (⟨"ChunkedNodesModel", "write", "()V"⟩, 37) := ⟨⟨by decide +kernel, by decide +kernel⟩, List.mem_of_getElem? (i := 509) (by decide +kernel), List.mem_of_getElem? (i := 726) (by decide +kernel), List.mem_of_getElem? (i := 727) (by decide +kernel)⟩
theorem lw_p43 : lw_okq (⟨"ChunkedNodesModel", "readValue", "()V"⟩, 37) := ⟨⟨by decide +kernel, by decide +kernel⟩, List.mem_of_getElem? (i := 509) (by decide +kernel), List.mem_of_getElem? (i := 730) (by decide +kernel), List.mem_of_getElem? (i := 731) (by decide +kernel)⟩
theorem lw_p44 : lw_okq (⟨"ChunkedNodesModel", "put", "(I)V"⟩, 37) := ⟨⟨by decide +kernel, by decide +kernel⟩, List.mem_of_getElem? (i := 509) (by decide +kernel), List.mem_of_getElem? (i := 734) (by decide +kernel), List.mem_of_getElem? (i := 735) (by decide +kernel)⟩
theorem lw_p45 : lw_okq (⟨"ChunkedNodesModel", "putNumber", "(I)I"⟩, 37) := ⟨⟨by decide +kernel, by decide +kernel⟩, List.mem_of_getElem? (i := 509) (by decide +kernel), List.mem_of_getElem? (i := 738) (by decide +kernel), List.mem_of_getElem? (i := 739) (by decide +kernel)⟩
theorem lw_p46 : lw_okq (⟨"ChunkedNodesModel", "readPlain", "(I)V"⟩, 37) := ⟨⟨by decide +kernel, by decide +kernel⟩, List.mem_of_getElem? (i := 509) (by decide +kernel), List.mem_of_getElem? (i := 742) (by decide +kernel), List.mem_of_getElem? (i := 743) (by decide +kernel)⟩
theorem lw_p47 : lw_okq (⟨"ChunkedNodesModel", "browse", "()V"⟩, 37) := ⟨⟨by decide +kernel, by decide +kernel⟩, List.mem_of_getElem? (i := 509) (by decide +kernel), List.mem_of_getElem? (i := 746) (by decide +kernel), List.mem_of_getElem? (i := 747) (by decide +kernel)⟩
def lw_privs_3 : List (MethodName × Nat) := [(⟨"ChunkedNodesModel", "append", "(III)V"⟩, 37), (⟨"ChunkedNodesModel", "follows", "(I)Z"⟩, 37), (⟨"ChunkedNodesModel", "reply", "()V"⟩, 37), (⟨"ChunkedNodesModel", "code", "(I)V"⟩, 37), (⟨"ChunkedNodesModel", "say", "(I)V"⟩, 37), (⟨"ChunkedNodesModel", "next", "()I"⟩, 37), (⟨"ChunkedNodesModel", "read", "()V"⟩, 37), (⟨"ChunkedNodesModel", "readName", "()V"⟩, 37), (⟨"ChunkedNodesModel", "number", "(I)I"⟩, 37), (⟨"ChunkedNodesModel", "whole", "()Z"⟩, 37), (⟨"ChunkedNodesModel", "write", "()V"⟩, 37), (⟨"ChunkedNodesModel", "readValue", "()V"⟩, 37), (⟨"ChunkedNodesModel", "put", "(I)V"⟩, 37), (⟨"ChunkedNodesModel", "putNumber", "(I)I"⟩, 37), (⟨"ChunkedNodesModel", "readPlain", "(I)V"⟩, 37), (⟨"ChunkedNodesModel", "browse", "()V"⟩, 37)]
theorem lw_r3 : ∀ q ∈ lw_privs_3, lw_okq q := List.forall_mem_cons.mpr ⟨lw_p32, List.forall_mem_cons.mpr ⟨lw_p33, List.forall_mem_cons.mpr ⟨lw_p34, List.forall_mem_cons.mpr ⟨lw_p35, List.forall_mem_cons.mpr ⟨lw_p36, List.forall_mem_cons.mpr ⟨lw_p37, List.forall_mem_cons.mpr ⟨lw_p38, List.forall_mem_cons.mpr ⟨lw_p39, List.forall_mem_cons.mpr ⟨lw_p40, List.forall_mem_cons.mpr ⟨lw_p41, List.forall_mem_cons.mpr ⟨lw_p42, List.forall_mem_cons.mpr ⟨lw_p43, List.forall_mem_cons.mpr ⟨lw_p44, List.forall_mem_cons.mpr ⟨lw_p45, List.forall_mem_cons.mpr ⟨lw_p46, List.forall_mem_cons.mpr ⟨lw_p47, fun _ h => absurd h List.not_mem_nil⟩⟩⟩⟩⟩⟩⟩⟩⟩⟩⟩⟩⟩⟩⟩⟩
theorem lw_p48 : lw_okq (⟨"ChunkedNodesModel", "watch", "()V"⟩, 37) := ⟨⟨by decide +kernel, by decide +kernel⟩, List.mem_of_getElem? (i := 509) (by decide +kernel), List.mem_of_getElem? (i := 750) (by decide +kernel), List.mem_of_getElem? (i := 751) (by decide +kernel)⟩
theorem lw_p49 : lw_okq (⟨"ChunkedNodesModel", "publish", "()V"⟩, 37) := ⟨⟨by decide +kernel, by decide +kernel⟩, List.mem_of_getElem? (i := 509) (by decide +kernel), List.mem_of_getElem? (i := 754) (by decide +kernel), List.mem_of_getElem? (i := 755) (by decide +kernel)⟩
theorem lw_p50 : lw_okq (⟨"ChunkedNodesModel", "find", "(I)I"⟩, 37) := ⟨⟨by decide +kernel, by decide +kernel⟩, List.mem_of_getElem? (i := 509) (by decide +kernel), List.mem_of_getElem? (i := 758) (by decide +kernel), List.mem_of_getElem? (i := 759) (by decide +kernel)⟩
theorem lw_p51 : lw_okq (⟨"ChunkedNodesModel", "dropParcel", "(I)V"⟩, 37) := ⟨⟨by decide +kernel, by decide +kernel⟩, List.mem_of_getElem? (i := 509) (by decide +kernel), List.mem_of_getElem? (i := 762) (by decide +kernel), List.mem_of_getElem? (i := 763) (by decide +kernel)⟩
theorem lw_p52 : lw_okq (⟨"ChunkedNodesModel", "busy", "()I"⟩, 37) := ⟨⟨by decide +kernel, by decide +kernel⟩, List.mem_of_getElem? (i := 509) (by decide +kernel), List.mem_of_getElem? (i := 766) (by decide +kernel), List.mem_of_getElem? (i := 767) (by decide +kernel)⟩
theorem lw_p53 : lw_okq (⟨"ChunkedNodesModel", "sayNumber", "(I)V"⟩, 37) := ⟨⟨by decide +kernel, by decide +kernel⟩, List.mem_of_getElem? (i := 509) (by decide +kernel), List.mem_of_getElem? (i := 770) (by decide +kernel), List.mem_of_getElem? (i := 771) (by decide +kernel)⟩
theorem lw_p54 : lw_okq (⟨"ChunkedNodesModel", "sayNotice", "(I)V"⟩, 37) := ⟨⟨by decide +kernel, by decide +kernel⟩, List.mem_of_getElem? (i := 509) (by decide +kernel), List.mem_of_getElem? (i := 774) (by decide +kernel), List.mem_of_getElem? (i := 775) (by decide +kernel)⟩
theorem lw_p55 : lw_okq (⟨"ChunkedNodesModel", "keep", "()V"⟩, 37) := ⟨⟨by decide +kernel, by decide +kernel⟩, List.mem_of_getElem? (i := 509) (by decide +kernel), List.mem_of_getElem? (i := 778) (by decide +kernel), List.mem_of_getElem? (i := 779) (by decide +kernel)⟩
theorem lw_p56 : lw_okq (⟨"ChunkedNodesModel", "again", "()V"⟩, 37) := ⟨⟨by decide +kernel, by decide +kernel⟩, List.mem_of_getElem? (i := 509) (by decide +kernel), List.mem_of_getElem? (i := 782) (by decide +kernel), List.mem_of_getElem? (i := 783) (by decide +kernel)⟩
def lw_privs_4 : List (MethodName × Nat) := [(⟨"ChunkedNodesModel", "watch", "()V"⟩, 37), (⟨"ChunkedNodesModel", "publish", "()V"⟩, 37), (⟨"ChunkedNodesModel", "find", "(I)I"⟩, 37), (⟨"ChunkedNodesModel", "dropParcel", "(I)V"⟩, 37), (⟨"ChunkedNodesModel", "busy", "()I"⟩, 37), (⟨"ChunkedNodesModel", "sayNumber", "(I)V"⟩, 37), (⟨"ChunkedNodesModel", "sayNotice", "(I)V"⟩, 37), (⟨"ChunkedNodesModel", "keep", "()V"⟩, 37), (⟨"ChunkedNodesModel", "again", "()V"⟩, 37)]
theorem lw_r4 : ∀ q ∈ lw_privs_4, lw_okq q := List.forall_mem_cons.mpr ⟨lw_p48, List.forall_mem_cons.mpr ⟨lw_p49, List.forall_mem_cons.mpr ⟨lw_p50, List.forall_mem_cons.mpr ⟨lw_p51, List.forall_mem_cons.mpr ⟨lw_p52, List.forall_mem_cons.mpr ⟨lw_p53, List.forall_mem_cons.mpr ⟨lw_p54, List.forall_mem_cons.mpr ⟨lw_p55, List.forall_mem_cons.mpr ⟨lw_p56, fun _ h => absurd h List.not_mem_nil⟩⟩⟩⟩⟩⟩⟩⟩⟩
def lw_privs : List (MethodName × Nat) := lw_privs_1 ++ (lw_privs_2 ++ (lw_privs_3 ++ (lw_privs_4)))
def lw_tbl : List Cond := k2_sels lw_privs ++ tables_1
theorem lw_privs_ok : ∀ q ∈ lw_privs, lw_okq q := by
  show ∀ q ∈ lw_privs_1 ++ (lw_privs_2 ++ (lw_privs_3 ++ (lw_privs_4))), lw_okq q
  exact List.forall_mem_append.mpr ⟨lw_r1, List.forall_mem_append.mpr ⟨lw_r2, List.forall_mem_append.mpr ⟨lw_r3, lw_r4⟩⟩⟩
-- ===== the words that a callee may take over (good), and those of nest mates =====
def cn_isn : Cond → Bool
  | .fieldLinkNest .. => true
  | .methodLinkNest .. => true
  | _ => false
def cn_T : List Cond := lw_tbl.filter goodWord
def cn_N : List Cond := lw_tbl.filter cn_isn
theorem cn_inT {w : Cond} (i : Nat) (h : lw_tbl[i]? = some w) (g : goodWord w = true) : w ∈ cn_T := List.mem_filter.mpr ⟨List.mem_of_getElem? h, g⟩
theorem cn_inN {w : Cond} (i : Nat) (h : lw_tbl[i]? = some w) (g : cn_isn w = true) : w ∈ cn_N := List.mem_filter.mpr ⟨List.mem_of_getElem? h, g⟩
def cn_RBy : String := "ChunkedNodes$Bytes"
def cn_TBy : u_T := fun k => match k with
  | 0 => ("ChunkedNodes$Bytes", "cells", "[B", true)
  | _ => ("ChunkedNodes$Bytes", "length", "I", false)
def cn_RCh : String := "ChunkedNodes$Channel"
def cn_TCh : u_T := fun k => match k with
  | 0 => ("ChunkedNodes$Channel", "message", "LChunkedNodes$Message;", true)
  | 1 => ("ChunkedNodes$Channel", "live", "Z", false)
  | 2 => ("ChunkedNodes$Channel", "begun", "Z", false)
  | 3 => ("ChunkedNodes$Channel", "latestSequence", "I", false)
  | 4 => ("ChunkedNodes$Channel", "partial", "Z", false)
  | 5 => ("ChunkedNodes$Channel", "partRequest", "I", false)
  | _ => ("ChunkedNodes$Channel", "partChunks", "I", false)
def cn_RIt : String := "ChunkedNodes$Item"
def cn_TIt : u_T := fun k => match k with
  | 0 => ("ChunkedNodes$Item", "rows", "[LChunkedNodes$Notice;", true)
  | 1 => ("ChunkedNodes$Item", "node", "I", false)
  | 2 => ("ChunkedNodes$Item", "capacity", "I", false)
  | 3 => ("ChunkedNodes$Item", "oldestGo", "Z", false)
  | _ => ("ChunkedNodes$Item", "waiting", "I", false)
def cn_RMe : String := "ChunkedNodes$Message"
def cn_TMe : u_T := fun k => match k with
  | 0 => ("ChunkedNodes$Message", "content", "LChunkedNodes$Bytes;", true)
  | 1 => ("ChunkedNodes$Message", "position", "I", false)
  | _ => ("ChunkedNodes$Message", "wellFormed", "Z", false)
def cn_RNo : String := "ChunkedNodes$Node"
def cn_TNo : u_T := fun k => match k with
  | 0 => ("ChunkedNodes$Node", "parent", "I", false)
  | 1 => ("ChunkedNodes$Node", "type", "I", false)
  | _ => ("ChunkedNodes$Node", "value", "LChunkedNodes$Bytes;", true)
def cn_RNt : String := "ChunkedNodes$Notice"
def cn_TNt : u_T := fun k => match k with
  | 0 => ("ChunkedNodes$Notice", "value", "LChunkedNodes$Bytes;", true)
  | _ => ("ChunkedNodes$Notice", "mark", "I", false)
def cn_RPa : String := "ChunkedNodes$Parcel"
def cn_TPa : u_T := fun k => match k with
  | 0 => ("ChunkedNodes$Parcel", "number", "I", false)
  | _ => ("ChunkedNodes$Parcel", "content", "LChunkedNodes$Bytes;", true)
def cn_RSf : String := "ChunkedNodes$Shelf"
def cn_TSf : u_T := fun k => match k with
  | 0 => ("ChunkedNodes$Shelf", "rows", "[LChunkedNodes$Parcel;", true)
  | 1 => ("ChunkedNodes$Shelf", "kept", "I", false)
  | _ => ("ChunkedNodes$Shelf", "latestNumber", "I", false)
def cn_RX : String := "ChunkedNodes"
def cn_TX : u_T := fun k => match k with
  | 0 => ("ChunkedNodes", "nodes", "[LChunkedNodes$Node;", true)
  | 1 => ("ChunkedNodes", "nodeCount", "I", false)
  | 2 => ("ChunkedNodes", "items", "[LChunkedNodes$Item;", true)
  | 3 => ("ChunkedNodes", "itemCount", "I", false)
  | 4 => ("ChunkedNodes", "shelf", "LChunkedNodes$Shelf;", true)
  | 5 => ("ChunkedNodes", "channel", "LChunkedNodes$Channel;", true)
  | 6 => ("ChunkedNodes", "reply", "LChunkedNodes$Bytes;", true)
  | 7 => ("ChunkedNodes", "replyRequest", "I", false)
  | 8 => ("ChunkedNodes", "incoming", "LChunkedNodes$Bytes;", true)
  | _ => ("ChunkedNodes", "acknowledged", "[I", true)
def cn_RM : String := "ChunkedNodesModel"
def cn_TM : u_T := fun k => match k with
  | 0 => ("ChunkedNodesModel", "isShut", "Z", false)
  | 1 => ("ChunkedNodesModel", "nodes", "I", false)
  | 2 => ("ChunkedNodesModel", "parent", "[I", false)
  | 3 => ("ChunkedNodesModel", "variable", "[Z", false)
  | 4 => ("ChunkedNodesModel", "type", "[I", false)
  | 5 => ("ChunkedNodesModel", "length", "[I", false)
  | 6 => ("ChunkedNodesModel", "held", "[I", false)
  | 7 => ("ChunkedNodesModel", "items", "I", false)
  | 8 => ("ChunkedNodesModel", "watched", "[I", false)
  | 9 => ("ChunkedNodesModel", "room", "[I", false)
  | 10 => ("ChunkedNodesModel", "oldestGo", "[Z", false)
  | 11 => ("ChunkedNodesModel", "waiting", "[I", false)
  | 12 => ("ChunkedNodesModel", "noticeLength", "[I", false)
  | 13 => ("ChunkedNodesModel", "noticeMark", "[I", false)
  | 14 => ("ChunkedNodesModel", "noticeByte", "[I", false)
  | 15 => ("ChunkedNodesModel", "kept", "I", false)
  | 16 => ("ChunkedNodesModel", "made", "I", false)
  | 17 => ("ChunkedNodesModel", "parcelNumber", "[I", false)
  | 18 => ("ChunkedNodesModel", "parcelLength", "[I", false)
  | 19 => ("ChunkedNodesModel", "parcelByte", "[I", false)
  | 20 => ("ChunkedNodesModel", "any", "Z", false)
  | 21 => ("ChunkedNodesModel", "latest", "I", false)
  | 22 => ("ChunkedNodesModel", "inPart", "Z", false)
  | 23 => ("ChunkedNodesModel", "chunks", "I", false)
  | 24 => ("ChunkedNodesModel", "asked", "I", false)
  | 25 => ("ChunkedNodesModel", "have", "I", false)
  | 26 => ("ChunkedNodesModel", "message", "[I", false)
  | 27 => ("ChunkedNodesModel", "at", "I", false)
  | 28 => ("ChunkedNodesModel", "good", "Z", false)
  | 29 => ("ChunkedNodesModel", "named", "I", false)
  | 30 => ("ChunkedNodesModel", "valueLength", "I", false)
  | 31 => ("ChunkedNodesModel", "value", "[I", false)
  | 32 => ("ChunkedNodesModel", "left", "[I", false)
  | 33 => ("ChunkedNodesModel", "answered", "Z", false)
  | 34 => ("ChunkedNodesModel", "answerTo", "I", false)
  | 35 => ("ChunkedNodesModel", "size", "I", false)
  | _ => ("ChunkedNodesModel", "out", "[I", false)
abbrev cn_cl : List vw_C := [(cn_RBy, cn_TBy, 2), (cn_RCh, cn_TCh, 7), (cn_RIt, cn_TIt, 5), (cn_RMe, cn_TMe, 3), (cn_RNo, cn_TNo, 3), (cn_RNt, cn_TNt, 2), (cn_RPa, cn_TPa, 2), (cn_RSf, cn_TSf, 3), (cn_RX, cn_TX, 10), (cn_RM, cn_TM, 37)]
def cn_F : List (List FieldType) := [[(.array .byte), .int], [(.object "ChunkedNodes$Message"), .boolean, .boolean, .int, .boolean, .int, .int], [(.array (.object "ChunkedNodes$Notice")), .int, .int, .boolean, .int], [(.object "ChunkedNodes$Bytes"), .int, .boolean], [.int, .int, (.object "ChunkedNodes$Bytes")], [(.object "ChunkedNodes$Bytes"), .int], [.int, (.object "ChunkedNodes$Bytes")], [(.array (.object "ChunkedNodes$Parcel")), .int, .int], [(.array (.object "ChunkedNodes$Node")), .int, (.array (.object "ChunkedNodes$Item")), .int, (.object "ChunkedNodes$Shelf"), (.object "ChunkedNodes$Channel"), (.object "ChunkedNodes$Bytes"), .int, (.object "ChunkedNodes$Bytes"), (.array .int)], [.boolean, .int, (.array .int), (.array .boolean), (.array .int), (.array .int), (.array .int), .int, (.array .int), (.array .int), (.array .boolean), (.array .int), (.array .int), (.array .int), (.array .int), .int, .int, (.array .int), (.array .int), (.array .int), .boolean, .int, .boolean, .int, .int, .int, (.array .int), .int, .boolean, .int, .int, (.array .int), (.array .int), .boolean, .int, .int, (.array .int)]]
def cn_ft (ci j : Nat) : FieldType := (cn_F.getD ci []).getD j .int
def cn_NF (ci : Nat) : Nat := (cn_F.getD ci []).length
def cn_cok (ci : Nat) (C : String) (T : u_T) (N : Nat) : Prop := cn_cl[ci]? = some (C, T, N) ∧ (∀ w ∈ u_ws C T N, w ∈ cn_T) ∧ (∀ k, k < N → parseFieldDescriptor (T k).2.2.1 = some (cn_ft ci k)) ∧ (∀ a, a < N → ∀ b, b < N → a ≠ b → (T a).2.1 ≠ (T b).2.1) ∧ cn_NF ci = N ∧ (∀ k, k < N → (T k).1 = C)
theorem cn_lay_By_0 : u_lay cn_RBy cn_TBy 0 ∈ cn_T := cn_inT 107 (by decide +kernel) (by decide +kernel)
theorem cn_lay_By_1 : u_lay cn_RBy cn_TBy 1 ∈ cn_T := cn_inT 109 (by decide +kernel) (by decide +kernel)
theorem cn_lays_By : ∀ w ∈ u_ws cn_RBy cn_TBy 2, w ∈ cn_T := by
  intro w hw
  obtain ⟨k, hk, rfl⟩ := List.mem_map.mp hw
  have hk : k < 2 := List.mem_range.mp hk
  match k, hk with
  | 0, _ => exact cn_lay_By_0
  | 1, _ => exact cn_lay_By_1
  | k + 2, h => exact absurd h (by omega)
theorem cn_ok_By : cn_cok 0 cn_RBy cn_TBy 2 := ⟨rfl, cn_lays_By, by decide +kernel, by decide +kernel, by decide +kernel, by decide +kernel⟩
theorem cn_lay_Ch_0 : u_lay cn_RCh cn_TCh 0 ∈ cn_T := cn_inT 171 (by decide +kernel) (by decide +kernel)
theorem cn_lay_Ch_1 : u_lay cn_RCh cn_TCh 1 ∈ cn_T := cn_inT 173 (by decide +kernel) (by decide +kernel)
theorem cn_lay_Ch_2 : u_lay cn_RCh cn_TCh 2 ∈ cn_T := cn_inT 175 (by decide +kernel) (by decide +kernel)
theorem cn_lay_Ch_3 : u_lay cn_RCh cn_TCh 3 ∈ cn_T := cn_inT 177 (by decide +kernel) (by decide +kernel)
theorem cn_lay_Ch_4 : u_lay cn_RCh cn_TCh 4 ∈ cn_T := cn_inT 179 (by decide +kernel) (by decide +kernel)
theorem cn_lay_Ch_5 : u_lay cn_RCh cn_TCh 5 ∈ cn_T := cn_inT 181 (by decide +kernel) (by decide +kernel)
theorem cn_lay_Ch_6 : u_lay cn_RCh cn_TCh 6 ∈ cn_T := cn_inT 183 (by decide +kernel) (by decide +kernel)
theorem cn_lays_Ch : ∀ w ∈ u_ws cn_RCh cn_TCh 7, w ∈ cn_T := by
  intro w hw
  obtain ⟨k, hk, rfl⟩ := List.mem_map.mp hw
  have hk : k < 7 := List.mem_range.mp hk
  match k, hk with
  | 0, _ => exact cn_lay_Ch_0
  | 1, _ => exact cn_lay_Ch_1
  | 2, _ => exact cn_lay_Ch_2
  | 3, _ => exact cn_lay_Ch_3
  | 4, _ => exact cn_lay_Ch_4
  | 5, _ => exact cn_lay_Ch_5
  | 6, _ => exact cn_lay_Ch_6
  | k + 7, h => exact absurd h (by omega)
theorem cn_ok_Ch : cn_cok 1 cn_RCh cn_TCh 7 := ⟨rfl, cn_lays_Ch, by decide +kernel, by decide +kernel, by decide +kernel, by decide +kernel⟩
theorem cn_lay_It_0 : u_lay cn_RIt cn_TIt 0 ∈ cn_T := cn_inT 240 (by decide +kernel) (by decide +kernel)
theorem cn_lay_It_1 : u_lay cn_RIt cn_TIt 1 ∈ cn_T := cn_inT 242 (by decide +kernel) (by decide +kernel)
theorem cn_lay_It_2 : u_lay cn_RIt cn_TIt 2 ∈ cn_T := cn_inT 244 (by decide +kernel) (by decide +kernel)
theorem cn_lay_It_3 : u_lay cn_RIt cn_TIt 3 ∈ cn_T := cn_inT 246 (by decide +kernel) (by decide +kernel)
theorem cn_lay_It_4 : u_lay cn_RIt cn_TIt 4 ∈ cn_T := cn_inT 248 (by decide +kernel) (by decide +kernel)
theorem cn_lays_It : ∀ w ∈ u_ws cn_RIt cn_TIt 5, w ∈ cn_T := by
  intro w hw
  obtain ⟨k, hk, rfl⟩ := List.mem_map.mp hw
  have hk : k < 5 := List.mem_range.mp hk
  match k, hk with
  | 0, _ => exact cn_lay_It_0
  | 1, _ => exact cn_lay_It_1
  | 2, _ => exact cn_lay_It_2
  | 3, _ => exact cn_lay_It_3
  | 4, _ => exact cn_lay_It_4
  | k + 5, h => exact absurd h (by omega)
theorem cn_ok_It : cn_cok 2 cn_RIt cn_TIt 5 := ⟨rfl, cn_lays_It, by decide +kernel, by decide +kernel, by decide +kernel, by decide +kernel⟩
theorem cn_lay_Me_0 : u_lay cn_RMe cn_TMe 0 ∈ cn_T := cn_inT 154 (by decide +kernel) (by decide +kernel)
theorem cn_lay_Me_1 : u_lay cn_RMe cn_TMe 1 ∈ cn_T := cn_inT 156 (by decide +kernel) (by decide +kernel)
theorem cn_lay_Me_2 : u_lay cn_RMe cn_TMe 2 ∈ cn_T := cn_inT 158 (by decide +kernel) (by decide +kernel)
theorem cn_lays_Me : ∀ w ∈ u_ws cn_RMe cn_TMe 3, w ∈ cn_T := by
  intro w hw
  obtain ⟨k, hk, rfl⟩ := List.mem_map.mp hw
  have hk : k < 3 := List.mem_range.mp hk
  match k, hk with
  | 0, _ => exact cn_lay_Me_0
  | 1, _ => exact cn_lay_Me_1
  | 2, _ => exact cn_lay_Me_2
  | k + 3, h => exact absurd h (by omega)
theorem cn_ok_Me : cn_cok 3 cn_RMe cn_TMe 3 := ⟨rfl, cn_lays_Me, by decide +kernel, by decide +kernel, by decide +kernel, by decide +kernel⟩
theorem cn_lay_No_0 : u_lay cn_RNo cn_TNo 0 ∈ cn_T := cn_inT 201 (by decide +kernel) (by decide +kernel)
theorem cn_lay_No_1 : u_lay cn_RNo cn_TNo 1 ∈ cn_T := cn_inT 203 (by decide +kernel) (by decide +kernel)
theorem cn_lay_No_2 : u_lay cn_RNo cn_TNo 2 ∈ cn_T := cn_inT 205 (by decide +kernel) (by decide +kernel)
theorem cn_lays_No : ∀ w ∈ u_ws cn_RNo cn_TNo 3, w ∈ cn_T := by
  intro w hw
  obtain ⟨k, hk, rfl⟩ := List.mem_map.mp hw
  have hk : k < 3 := List.mem_range.mp hk
  match k, hk with
  | 0, _ => exact cn_lay_No_0
  | 1, _ => exact cn_lay_No_1
  | 2, _ => exact cn_lay_No_2
  | k + 3, h => exact absurd h (by omega)
theorem cn_ok_No : cn_cok 4 cn_RNo cn_TNo 3 := ⟨rfl, cn_lays_No, by decide +kernel, by decide +kernel, by decide +kernel, by decide +kernel⟩
theorem cn_lay_Nt_0 : u_lay cn_RNt cn_TNt 0 ∈ cn_T := cn_inT 228 (by decide +kernel) (by decide +kernel)
theorem cn_lay_Nt_1 : u_lay cn_RNt cn_TNt 1 ∈ cn_T := cn_inT 230 (by decide +kernel) (by decide +kernel)
theorem cn_lays_Nt : ∀ w ∈ u_ws cn_RNt cn_TNt 2, w ∈ cn_T := by
  intro w hw
  obtain ⟨k, hk, rfl⟩ := List.mem_map.mp hw
  have hk : k < 2 := List.mem_range.mp hk
  match k, hk with
  | 0, _ => exact cn_lay_Nt_0
  | 1, _ => exact cn_lay_Nt_1
  | k + 2, h => exact absurd h (by omega)
theorem cn_ok_Nt : cn_cok 5 cn_RNt cn_TNt 2 := ⟨rfl, cn_lays_Nt, by decide +kernel, by decide +kernel, by decide +kernel, by decide +kernel⟩
theorem cn_lay_Pa_0 : u_lay cn_RPa cn_TPa 0 ∈ cn_T := cn_inT 118 (by decide +kernel) (by decide +kernel)
theorem cn_lay_Pa_1 : u_lay cn_RPa cn_TPa 1 ∈ cn_T := cn_inT 120 (by decide +kernel) (by decide +kernel)
theorem cn_lays_Pa : ∀ w ∈ u_ws cn_RPa cn_TPa 2, w ∈ cn_T := by
  intro w hw
  obtain ⟨k, hk, rfl⟩ := List.mem_map.mp hw
  have hk : k < 2 := List.mem_range.mp hk
  match k, hk with
  | 0, _ => exact cn_lay_Pa_0
  | 1, _ => exact cn_lay_Pa_1
  | k + 2, h => exact absurd h (by omega)
theorem cn_ok_Pa : cn_cok 6 cn_RPa cn_TPa 2 := ⟨rfl, cn_lays_Pa, by decide +kernel, by decide +kernel, by decide +kernel, by decide +kernel⟩
theorem cn_lay_Sf_0 : u_lay cn_RSf cn_TSf 0 ∈ cn_T := cn_inT 128 (by decide +kernel) (by decide +kernel)
theorem cn_lay_Sf_1 : u_lay cn_RSf cn_TSf 1 ∈ cn_T := cn_inT 130 (by decide +kernel) (by decide +kernel)
theorem cn_lay_Sf_2 : u_lay cn_RSf cn_TSf 2 ∈ cn_T := cn_inT 132 (by decide +kernel) (by decide +kernel)
theorem cn_lays_Sf : ∀ w ∈ u_ws cn_RSf cn_TSf 3, w ∈ cn_T := by
  intro w hw
  obtain ⟨k, hk, rfl⟩ := List.mem_map.mp hw
  have hk : k < 3 := List.mem_range.mp hk
  match k, hk with
  | 0, _ => exact cn_lay_Sf_0
  | 1, _ => exact cn_lay_Sf_1
  | 2, _ => exact cn_lay_Sf_2
  | k + 3, h => exact absurd h (by omega)
theorem cn_ok_Sf : cn_cok 7 cn_RSf cn_TSf 3 := ⟨rfl, cn_lays_Sf, by decide +kernel, by decide +kernel, by decide +kernel, by decide +kernel⟩
theorem cn_lay_X_0 : u_lay cn_RX cn_TX 0 ∈ cn_T := cn_inT 275 (by decide +kernel) (by decide +kernel)
theorem cn_lay_X_1 : u_lay cn_RX cn_TX 1 ∈ cn_T := cn_inT 277 (by decide +kernel) (by decide +kernel)
theorem cn_lay_X_2 : u_lay cn_RX cn_TX 2 ∈ cn_T := cn_inT 279 (by decide +kernel) (by decide +kernel)
theorem cn_lay_X_3 : u_lay cn_RX cn_TX 3 ∈ cn_T := cn_inT 281 (by decide +kernel) (by decide +kernel)
theorem cn_lay_X_4 : u_lay cn_RX cn_TX 4 ∈ cn_T := cn_inT 283 (by decide +kernel) (by decide +kernel)
theorem cn_lay_X_5 : u_lay cn_RX cn_TX 5 ∈ cn_T := cn_inT 285 (by decide +kernel) (by decide +kernel)
theorem cn_lay_X_6 : u_lay cn_RX cn_TX 6 ∈ cn_T := cn_inT 287 (by decide +kernel) (by decide +kernel)
theorem cn_lay_X_7 : u_lay cn_RX cn_TX 7 ∈ cn_T := cn_inT 289 (by decide +kernel) (by decide +kernel)
theorem cn_lay_X_8 : u_lay cn_RX cn_TX 8 ∈ cn_T := cn_inT 291 (by decide +kernel) (by decide +kernel)
theorem cn_lay_X_9 : u_lay cn_RX cn_TX 9 ∈ cn_T := cn_inT 293 (by decide +kernel) (by decide +kernel)
theorem cn_lays_X : ∀ w ∈ u_ws cn_RX cn_TX 10, w ∈ cn_T := by
  intro w hw
  obtain ⟨k, hk, rfl⟩ := List.mem_map.mp hw
  have hk : k < 10 := List.mem_range.mp hk
  match k, hk with
  | 0, _ => exact cn_lay_X_0
  | 1, _ => exact cn_lay_X_1
  | 2, _ => exact cn_lay_X_2
  | 3, _ => exact cn_lay_X_3
  | 4, _ => exact cn_lay_X_4
  | 5, _ => exact cn_lay_X_5
  | 6, _ => exact cn_lay_X_6
  | 7, _ => exact cn_lay_X_7
  | 8, _ => exact cn_lay_X_8
  | 9, _ => exact cn_lay_X_9
  | k + 10, h => exact absurd h (by omega)
theorem cn_ok_X : cn_cok 8 cn_RX cn_TX 10 := ⟨rfl, cn_lays_X, by decide +kernel, by decide +kernel, by decide +kernel, by decide +kernel⟩
theorem cn_lay_M_0 : u_lay cn_RM cn_TM 0 ∈ cn_T := cn_inT 608 (by decide +kernel) (by decide +kernel)
theorem cn_lay_M_1 : u_lay cn_RM cn_TM 1 ∈ cn_T := cn_inT 610 (by decide +kernel) (by decide +kernel)
theorem cn_lay_M_2 : u_lay cn_RM cn_TM 2 ∈ cn_T := cn_inT 612 (by decide +kernel) (by decide +kernel)
theorem cn_lay_M_3 : u_lay cn_RM cn_TM 3 ∈ cn_T := cn_inT 614 (by decide +kernel) (by decide +kernel)
theorem cn_lay_M_4 : u_lay cn_RM cn_TM 4 ∈ cn_T := cn_inT 616 (by decide +kernel) (by decide +kernel)
theorem cn_lay_M_5 : u_lay cn_RM cn_TM 5 ∈ cn_T := cn_inT 618 (by decide +kernel) (by decide +kernel)
theorem cn_lay_M_6 : u_lay cn_RM cn_TM 6 ∈ cn_T := cn_inT 620 (by decide +kernel) (by decide +kernel)
theorem cn_lay_M_7 : u_lay cn_RM cn_TM 7 ∈ cn_T := cn_inT 622 (by decide +kernel) (by decide +kernel)
theorem cn_lay_M_8 : u_lay cn_RM cn_TM 8 ∈ cn_T := cn_inT 624 (by decide +kernel) (by decide +kernel)
theorem cn_lay_M_9 : u_lay cn_RM cn_TM 9 ∈ cn_T := cn_inT 626 (by decide +kernel) (by decide +kernel)
theorem cn_lay_M_10 : u_lay cn_RM cn_TM 10 ∈ cn_T := cn_inT 628 (by decide +kernel) (by decide +kernel)
theorem cn_lay_M_11 : u_lay cn_RM cn_TM 11 ∈ cn_T := cn_inT 630 (by decide +kernel) (by decide +kernel)
theorem cn_lay_M_12 : u_lay cn_RM cn_TM 12 ∈ cn_T := cn_inT 632 (by decide +kernel) (by decide +kernel)
theorem cn_lay_M_13 : u_lay cn_RM cn_TM 13 ∈ cn_T := cn_inT 634 (by decide +kernel) (by decide +kernel)
theorem cn_lay_M_14 : u_lay cn_RM cn_TM 14 ∈ cn_T := cn_inT 636 (by decide +kernel) (by decide +kernel)
theorem cn_lay_M_15 : u_lay cn_RM cn_TM 15 ∈ cn_T := cn_inT 638 (by decide +kernel) (by decide +kernel)
theorem cn_lay_M_16 : u_lay cn_RM cn_TM 16 ∈ cn_T := cn_inT 640 (by decide +kernel) (by decide +kernel)
theorem cn_lay_M_17 : u_lay cn_RM cn_TM 17 ∈ cn_T := cn_inT 642 (by decide +kernel) (by decide +kernel)
theorem cn_lay_M_18 : u_lay cn_RM cn_TM 18 ∈ cn_T := cn_inT 644 (by decide +kernel) (by decide +kernel)
theorem cn_lay_M_19 : u_lay cn_RM cn_TM 19 ∈ cn_T := cn_inT 646 (by decide +kernel) (by decide +kernel)
theorem cn_lay_M_20 : u_lay cn_RM cn_TM 20 ∈ cn_T := cn_inT 648 (by decide +kernel) (by decide +kernel)
theorem cn_lay_M_21 : u_lay cn_RM cn_TM 21 ∈ cn_T := cn_inT 650 (by decide +kernel) (by decide +kernel)
theorem cn_lay_M_22 : u_lay cn_RM cn_TM 22 ∈ cn_T := cn_inT 652 (by decide +kernel) (by decide +kernel)
theorem cn_lay_M_23 : u_lay cn_RM cn_TM 23 ∈ cn_T := cn_inT 654 (by decide +kernel) (by decide +kernel)
theorem cn_lay_M_24 : u_lay cn_RM cn_TM 24 ∈ cn_T := cn_inT 656 (by decide +kernel) (by decide +kernel)
theorem cn_lay_M_25 : u_lay cn_RM cn_TM 25 ∈ cn_T := cn_inT 658 (by decide +kernel) (by decide +kernel)
theorem cn_lay_M_26 : u_lay cn_RM cn_TM 26 ∈ cn_T := cn_inT 660 (by decide +kernel) (by decide +kernel)
theorem cn_lay_M_27 : u_lay cn_RM cn_TM 27 ∈ cn_T := cn_inT 662 (by decide +kernel) (by decide +kernel)
theorem cn_lay_M_28 : u_lay cn_RM cn_TM 28 ∈ cn_T := cn_inT 664 (by decide +kernel) (by decide +kernel)
theorem cn_lay_M_29 : u_lay cn_RM cn_TM 29 ∈ cn_T := cn_inT 666 (by decide +kernel) (by decide +kernel)
theorem cn_lay_M_30 : u_lay cn_RM cn_TM 30 ∈ cn_T := cn_inT 668 (by decide +kernel) (by decide +kernel)
theorem cn_lay_M_31 : u_lay cn_RM cn_TM 31 ∈ cn_T := cn_inT 670 (by decide +kernel) (by decide +kernel)
theorem cn_lay_M_32 : u_lay cn_RM cn_TM 32 ∈ cn_T := cn_inT 672 (by decide +kernel) (by decide +kernel)
theorem cn_lay_M_33 : u_lay cn_RM cn_TM 33 ∈ cn_T := cn_inT 674 (by decide +kernel) (by decide +kernel)
theorem cn_lay_M_34 : u_lay cn_RM cn_TM 34 ∈ cn_T := cn_inT 676 (by decide +kernel) (by decide +kernel)
theorem cn_lay_M_35 : u_lay cn_RM cn_TM 35 ∈ cn_T := cn_inT 678 (by decide +kernel) (by decide +kernel)
theorem cn_lay_M_36 : u_lay cn_RM cn_TM 36 ∈ cn_T := cn_inT 680 (by decide +kernel) (by decide +kernel)
theorem cn_lays_M : ∀ w ∈ u_ws cn_RM cn_TM 37, w ∈ cn_T := by
  intro w hw
  obtain ⟨k, hk, rfl⟩ := List.mem_map.mp hw
  have hk : k < 37 := List.mem_range.mp hk
  match k, hk with
  | 0, _ => exact cn_lay_M_0
  | 1, _ => exact cn_lay_M_1
  | 2, _ => exact cn_lay_M_2
  | 3, _ => exact cn_lay_M_3
  | 4, _ => exact cn_lay_M_4
  | 5, _ => exact cn_lay_M_5
  | 6, _ => exact cn_lay_M_6
  | 7, _ => exact cn_lay_M_7
  | 8, _ => exact cn_lay_M_8
  | 9, _ => exact cn_lay_M_9
  | 10, _ => exact cn_lay_M_10
  | 11, _ => exact cn_lay_M_11
  | 12, _ => exact cn_lay_M_12
  | 13, _ => exact cn_lay_M_13
  | 14, _ => exact cn_lay_M_14
  | 15, _ => exact cn_lay_M_15
  | 16, _ => exact cn_lay_M_16
  | 17, _ => exact cn_lay_M_17
  | 18, _ => exact cn_lay_M_18
  | 19, _ => exact cn_lay_M_19
  | 20, _ => exact cn_lay_M_20
  | 21, _ => exact cn_lay_M_21
  | 22, _ => exact cn_lay_M_22
  | 23, _ => exact cn_lay_M_23
  | 24, _ => exact cn_lay_M_24
  | 25, _ => exact cn_lay_M_25
  | 26, _ => exact cn_lay_M_26
  | 27, _ => exact cn_lay_M_27
  | 28, _ => exact cn_lay_M_28
  | 29, _ => exact cn_lay_M_29
  | 30, _ => exact cn_lay_M_30
  | 31, _ => exact cn_lay_M_31
  | 32, _ => exact cn_lay_M_32
  | 33, _ => exact cn_lay_M_33
  | 34, _ => exact cn_lay_M_34
  | 35, _ => exact cn_lay_M_35
  | 36, _ => exact cn_lay_M_36
  | k + 37, h => exact absurd h (by omega)
theorem cn_ok_M : cn_cok 9 cn_RM cn_TM 37 := ⟨rfl, cn_lays_M, by decide +kernel, by decide +kernel, by decide +kernel, by decide +kernel⟩
