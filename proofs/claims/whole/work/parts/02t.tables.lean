/-! links by their places -/
theorem z_ix (n : Nat) {w : Cond} (h : lw_tbl[n]? = some w ∧ goodWord w = true) : w ∈ z_tbl := List.mem_filter.mpr ⟨List.mem_of_getElem? h.1, h.2⟩
def kO (K : Nat) : String := match K with | 15 => RJ9 | 16 => RL | K => kR K
def z_yAdd : MethodName := yJx4a65c_add_9ea2d
def z_yCpy : MethodName := ⟨"java/lang/System", "arraycopy", "(Ljava/lang/Object;ILjava/lang/Object;II)V"⟩
def z_prim (own : String) (i c : Nat) : Cond := match c with | 1 => .methodLink own i yJx4a65c_size_8abf5 | 2 => .methodLink own i yJx4a65c_get_915e3 | 3 => .methodLink own i z_yAdd | 4 => .methodLink own i yJ6_valueOf_2dffe | 5 => .methodLink own i yJ6_intValue_8abf5 | 6 => .methodLink own i z_yCpy | 7 => .methodLink own i Lib.objectInit | 8 => .methodLink own i yJx4a65c_init_da8c8 | 20 => .classLink own i RJx4a65c | _ => .classLink own i RJ6
def z_Fk_2 : List (Nat × Nat × Nat) := [(9, 2, 2), (15, 2, 5), (18, 2, 6), (21, 2, 0), (27, 2, 1)]
theorem z_Fk_2_ok : ∀ q ∈ z_Fk_2, Cond.fieldLink (kO 2) q.1 (kT q.2.1 q.2.2).1 (kT q.2.1 q.2.2).2.1 (kT q.2.1 q.2.2).2.2.1 ∈ z_tbl := by
  unfold z_Fk_2
  refine List.forall_mem_cons.mpr ⟨z_ix 413 (by decide +kernel), ?_⟩
  refine List.forall_mem_cons.mpr ⟨z_ix 418 (by decide +kernel), ?_⟩
  refine List.forall_mem_cons.mpr ⟨z_ix 420 (by decide +kernel), ?_⟩
  refine List.forall_mem_cons.mpr ⟨z_ix 407 (by decide +kernel), ?_⟩
  refine List.forall_mem_cons.mpr ⟨z_ix 410 (by decide +kernel), ?_⟩
  exact fun _ h => absurd h List.not_mem_nil
def z_Fk_3 : List (Nat × Nat × Nat) := [(7, 3, 0), (13, 11, 4), (22, 11, 5), (33, 11, 7), (36, 3, 1), (40, 11, 6), (43, 3, 2), (46, 3, 3), (49, 3, 4)]
theorem z_Fk_3_ok : ∀ q ∈ z_Fk_3, Cond.fieldLink (kO 3) q.1 (kT q.2.1 q.2.2).1 (kT q.2.1 q.2.2).2.1 (kT q.2.1 q.2.2).2.2.1 ∈ z_tbl := by
  unfold z_Fk_3
  refine List.forall_mem_cons.mpr ⟨z_ix 265 (by decide +kernel), ?_⟩
  refine List.forall_mem_cons.mpr ⟨z_ix 87 (by decide +kernel), ?_⟩
  refine List.forall_mem_cons.mpr ⟨z_ix 90 (by decide +kernel), ?_⟩
  refine List.forall_mem_cons.mpr ⟨z_ix 96 (by decide +kernel), ?_⟩
  refine List.forall_mem_cons.mpr ⟨z_ix 267 (by decide +kernel), ?_⟩
  refine List.forall_mem_cons.mpr ⟨z_ix 93 (by decide +kernel), ?_⟩
  refine List.forall_mem_cons.mpr ⟨z_ix 269 (by decide +kernel), ?_⟩
  refine List.forall_mem_cons.mpr ⟨z_ix 271 (by decide +kernel), ?_⟩
  refine List.forall_mem_cons.mpr ⟨z_ix 273 (by decide +kernel), ?_⟩
  exact fun _ h => absurd h List.not_mem_nil
def z_Fk_4 : List (Nat × Nat × Nat) := [(7, 4, 0), (13, 4, 1), (16, 4, 2), (19, 4, 3)]
theorem z_Fk_4_ok : ∀ q ∈ z_Fk_4, Cond.fieldLink (kO 4) q.1 (kT q.2.1 q.2.2).1 (kT q.2.1 q.2.2).2.1 (kT q.2.1 q.2.2).2.2.1 ∈ z_tbl := by
  unfold z_Fk_4
  refine List.forall_mem_cons.mpr ⟨z_ix 375 (by decide +kernel), ?_⟩
  refine List.forall_mem_cons.mpr ⟨z_ix 377 (by decide +kernel), ?_⟩
  refine List.forall_mem_cons.mpr ⟨z_ix 378 (by decide +kernel), ?_⟩
  refine List.forall_mem_cons.mpr ⟨z_ix 379 (by decide +kernel), ?_⟩
  exact fun _ h => absurd h List.not_mem_nil
def z_Fk_5 : List (Nat × Nat × Nat) := [(12, 5, 0), (18, 5, 1), (22, 5, 2), (46, 2, 2), (52, 2, 3), (55, 5, 4), (58, 2, 1), (66, 6, 3), (70, 2, 0), (73, 6, 4), (76, 6, 5), (84, 5, 3)]
theorem z_Fk_5_ok : ∀ q ∈ z_Fk_5, Cond.fieldLink (kO 5) q.1 (kT q.2.1 q.2.2).1 (kT q.2.1 q.2.2).2.1 (kT q.2.1 q.2.2).2.2.1 ∈ z_tbl := by
  unfold z_Fk_5
  refine List.forall_mem_cons.mpr ⟨z_ix 237 (by decide +kernel), ?_⟩
  refine List.forall_mem_cons.mpr ⟨z_ix 239 (by decide +kernel), ?_⟩
  refine List.forall_mem_cons.mpr ⟨z_ix 241 (by decide +kernel), ?_⟩
  refine List.forall_mem_cons.mpr ⟨z_ix 414 (by decide +kernel), ?_⟩
  refine List.forall_mem_cons.mpr ⟨z_ix 416 (by decide +kernel), ?_⟩
  refine List.forall_mem_cons.mpr ⟨z_ix 245 (by decide +kernel), ?_⟩
  refine List.forall_mem_cons.mpr ⟨z_ix 411 (by decide +kernel), ?_⟩
  refine List.forall_mem_cons.mpr ⟨z_ix 577 (by decide +kernel), ?_⟩
  refine List.forall_mem_cons.mpr ⟨z_ix 408 (by decide +kernel), ?_⟩
  refine List.forall_mem_cons.mpr ⟨z_ix 580 (by decide +kernel), ?_⟩
  refine List.forall_mem_cons.mpr ⟨z_ix 583 (by decide +kernel), ?_⟩
  refine List.forall_mem_cons.mpr ⟨z_ix 243 (by decide +kernel), ?_⟩
  exact fun _ h => absurd h List.not_mem_nil
def z_Fk_6 : List (Nat × Nat × Nat) := [(9, 6, 0), (15, 6, 3), (19, 6, 1), (22, 6, 4), (25, 6, 5), (29, 6, 2)]
theorem z_Fk_6_ok : ∀ q ∈ z_Fk_6, Cond.fieldLink (kO 6) q.1 (kT q.2.1 q.2.2).1 (kT q.2.1 q.2.2).2.1 (kT q.2.1 q.2.2).2.2.1 ∈ z_tbl := by
  unfold z_Fk_6
  refine List.forall_mem_cons.mpr ⟨z_ix 570 (by decide +kernel), ?_⟩
  refine List.forall_mem_cons.mpr ⟨z_ix 576 (by decide +kernel), ?_⟩
  refine List.forall_mem_cons.mpr ⟨z_ix 572 (by decide +kernel), ?_⟩
  refine List.forall_mem_cons.mpr ⟨z_ix 579 (by decide +kernel), ?_⟩
  refine List.forall_mem_cons.mpr ⟨z_ix 582 (by decide +kernel), ?_⟩
  refine List.forall_mem_cons.mpr ⟨z_ix 574 (by decide +kernel), ?_⟩
  exact fun _ h => absurd h List.not_mem_nil
def z_Fk_7 : List (Nat × Nat × Nat) := [(9, 7, 0), (15, 7, 1)]
theorem z_Fk_7_ok : ∀ q ∈ z_Fk_7, Cond.fieldLink (kO 7) q.1 (kT q.2.1 q.2.2).1 (kT q.2.1 q.2.2).2.1 (kT q.2.1 q.2.2).2.2.1 ∈ z_tbl := by
  unfold z_Fk_7
  refine List.forall_mem_cons.mpr ⟨z_ix 814 (by decide +kernel), ?_⟩
  refine List.forall_mem_cons.mpr ⟨z_ix 816 (by decide +kernel), ?_⟩
  exact fun _ h => absurd h List.not_mem_nil
def z_Fk_8 : List (Nat × Nat × Nat) := [(9, 8, 6), (15, 8, 7), (18, 8, 9), (21, 8, 10), (24, 8, 0), (28, 8, 1), (31, 8, 2), (35, 8, 3), (38, 8, 4), (41, 8, 5)]
theorem z_Fk_8_ok : ∀ q ∈ z_Fk_8, Cond.fieldLink (kO 8) q.1 (kT q.2.1 q.2.2).1 (kT q.2.1 q.2.2).2.1 (kT q.2.1 q.2.2).2.2.1 ∈ z_tbl := by
  unfold z_Fk_8
  refine List.forall_mem_cons.mpr ⟨z_ix 659 (by decide +kernel), ?_⟩
  refine List.forall_mem_cons.mpr ⟨z_ix 661 (by decide +kernel), ?_⟩
  refine List.forall_mem_cons.mpr ⟨z_ix 664 (by decide +kernel), ?_⟩
  refine List.forall_mem_cons.mpr ⟨z_ix 666 (by decide +kernel), ?_⟩
  refine List.forall_mem_cons.mpr ⟨z_ix 647 (by decide +kernel), ?_⟩
  refine List.forall_mem_cons.mpr ⟨z_ix 649 (by decide +kernel), ?_⟩
  refine List.forall_mem_cons.mpr ⟨z_ix 651 (by decide +kernel), ?_⟩
  refine List.forall_mem_cons.mpr ⟨z_ix 653 (by decide +kernel), ?_⟩
  refine List.forall_mem_cons.mpr ⟨z_ix 655 (by decide +kernel), ?_⟩
  refine List.forall_mem_cons.mpr ⟨z_ix 657 (by decide +kernel), ?_⟩
  exact fun _ h => absurd h List.not_mem_nil
def z_Fk_9 : List (Nat × Nat × Nat) := [(9, 9, 6), (15, 9, 4), (19, 9, 0), (23, 9, 1), (26, 9, 2), (29, 9, 3), (33, 9, 5)]
theorem z_Fk_9_ok : ∀ q ∈ z_Fk_9, Cond.fieldLink (kO 9) q.1 (kT q.2.1 q.2.2).1 (kT q.2.1 q.2.2).2.1 (kT q.2.1 q.2.2).2.2.1 ∈ z_tbl := by
  unfold z_Fk_9
  refine List.forall_mem_cons.mpr ⟨z_ix 518 (by decide +kernel), ?_⟩
  refine List.forall_mem_cons.mpr ⟨z_ix 514 (by decide +kernel), ?_⟩
  refine List.forall_mem_cons.mpr ⟨z_ix 506 (by decide +kernel), ?_⟩
  refine List.forall_mem_cons.mpr ⟨z_ix 508 (by decide +kernel), ?_⟩
  refine List.forall_mem_cons.mpr ⟨z_ix 510 (by decide +kernel), ?_⟩
  refine List.forall_mem_cons.mpr ⟨z_ix 512 (by decide +kernel), ?_⟩
  refine List.forall_mem_cons.mpr ⟨z_ix 516 (by decide +kernel), ?_⟩
  exact fun _ h => absurd h List.not_mem_nil
def z_Fk_10 : List (Nat × Nat × Nat) := [(9, 10, 0), (15, 10, 1), (19, 10, 2), (23, 10, 3)]
theorem z_Fk_10_ok : ∀ q ∈ z_Fk_10, Cond.fieldLink (kO 10) q.1 (kT q.2.1 q.2.2).1 (kT q.2.1 q.2.2).2.1 (kT q.2.1 q.2.2).2.2.1 ∈ z_tbl := by
  unfold z_Fk_10
  refine List.forall_mem_cons.mpr ⟨z_ix 147 (by decide +kernel), ?_⟩
  refine List.forall_mem_cons.mpr ⟨z_ix 150 (by decide +kernel), ?_⟩
  refine List.forall_mem_cons.mpr ⟨z_ix 152 (by decide +kernel), ?_⟩
  refine List.forall_mem_cons.mpr ⟨z_ix 155 (by decide +kernel), ?_⟩
  exact fun _ h => absurd h List.not_mem_nil
def z_Fk_11 : List (Nat × Nat × Nat) := [(7, 11, 0), (13, 11, 1), (16, 11, 2), (19, 11, 3), (22, 11, 4), (25, 11, 5), (28, 11, 6), (31, 11, 7)]
theorem z_Fk_11_ok : ∀ q ∈ z_Fk_11, Cond.fieldLink (kO 11) q.1 (kT q.2.1 q.2.2).1 (kT q.2.1 q.2.2).2.1 (kT q.2.1 q.2.2).2.2.1 ∈ z_tbl := by
  unfold z_Fk_11
  refine List.forall_mem_cons.mpr ⟨z_ix 78 (by decide +kernel), ?_⟩
  refine List.forall_mem_cons.mpr ⟨z_ix 80 (by decide +kernel), ?_⟩
  refine List.forall_mem_cons.mpr ⟨z_ix 82 (by decide +kernel), ?_⟩
  refine List.forall_mem_cons.mpr ⟨z_ix 84 (by decide +kernel), ?_⟩
  refine List.forall_mem_cons.mpr ⟨z_ix 86 (by decide +kernel), ?_⟩
  refine List.forall_mem_cons.mpr ⟨z_ix 89 (by decide +kernel), ?_⟩
  refine List.forall_mem_cons.mpr ⟨z_ix 92 (by decide +kernel), ?_⟩
  refine List.forall_mem_cons.mpr ⟨z_ix 95 (by decide +kernel), ?_⟩
  exact fun _ h => absurd h List.not_mem_nil
def z_Fk_12 : List (Nat × Nat × Nat) := [(9, 12, 0), (15, 12, 1), (18, 10, 3), (23, 10, 0), (33, 12, 2), (43, 12, 3)]
theorem z_Fk_12_ok : ∀ q ∈ z_Fk_12, Cond.fieldLink (kO 12) q.1 (kT q.2.1 q.2.2).1 (kT q.2.1 q.2.2).2.1 (kT q.2.1 q.2.2).2.2.1 ∈ z_tbl := by
  unfold z_Fk_12
  refine List.forall_mem_cons.mpr ⟨z_ix 292 (by decide +kernel), ?_⟩
  refine List.forall_mem_cons.mpr ⟨z_ix 294 (by decide +kernel), ?_⟩
  refine List.forall_mem_cons.mpr ⟨z_ix 154 (by decide +kernel), ?_⟩
  refine List.forall_mem_cons.mpr ⟨z_ix 148 (by decide +kernel), ?_⟩
  refine List.forall_mem_cons.mpr ⟨z_ix 296 (by decide +kernel), ?_⟩
  refine List.forall_mem_cons.mpr ⟨z_ix 298 (by decide +kernel), ?_⟩
  exact fun _ h => absurd h List.not_mem_nil
def z_Fk_13 : List (Nat × Nat × Nat) := [(10, 13, 0), (19, 13, 1), (23, 13, 2), (26, 13, 3), (29, 13, 4), (32, 13, 5), (35, 13, 6), (48, 13, 7), (55, 13, 8), (62, 13, 9), (80, 11, 0), (84, 11, 1), (87, 11, 2), (90, 11, 3), (93, 11, 4), (96, 11, 5), (99, 11, 6), (102, 11, 7), (127, 2, 5), (130, 2, 6), (141, 10, 1), (152, 12, 0), (155, 12, 1), (168, 9, 0), (178, 9, 3), (182, 9, 4), (186, 2, 4), (193, 4, 4), (194, 9, 1), (195, 4, 5), (197, 9, 2), (200, 9, 6), (207, 13, 12), (210, 9, 5), (215, 13, 10), (226, 8, 6), (233, 8, 7), (236, 8, 8), (253, 5, 3), (256, 5, 1), (260, 5, 2), (263, 8, 11), (266, 8, 10), (273, 8, 9), (276, 8, 1), (279, 8, 2), (286, 6, 3), (291, 6, 4), (294, 6, 5), (299, 12, 2), (302, 12, 3), (320, 7, 1), (329, 7, 0), (339, 2, 2), (342, 2, 1), (352, 6, 0), (353, 2, 0), (356, 6, 1), (357, 6, 2), (360, 8, 0), (363, 8, 3), (364, 8, 4), (370, 4, 0), (371, 13, 11), (374, 5, 0), (377, 5, 4), (379, 3, 0), (385, 3, 1), (388, 3, 2), (397, 10, 3), (399, 10, 0), (407, 10, 2), (423, 3, 4), (438, 8, 5), (454, 3, 3)]
theorem z_Fk_13_ok : ∀ q ∈ z_Fk_13, Cond.fieldLink (kO 13) q.1 (kT q.2.1 q.2.2).1 (kT q.2.1 q.2.2).2.1 (kT q.2.1 q.2.2).2.2.1 ∈ z_tbl := by
  unfold z_Fk_13
  refine List.forall_mem_cons.mpr ⟨z_ix 309 (by decide +kernel), ?_⟩
  refine List.forall_mem_cons.mpr ⟨z_ix 310 (by decide +kernel), ?_⟩
  refine List.forall_mem_cons.mpr ⟨z_ix 311 (by decide +kernel), ?_⟩
  refine List.forall_mem_cons.mpr ⟨z_ix 312 (by decide +kernel), ?_⟩
  refine List.forall_mem_cons.mpr ⟨z_ix 313 (by decide +kernel), ?_⟩
  refine List.forall_mem_cons.mpr ⟨z_ix 314 (by decide +kernel), ?_⟩
  refine List.forall_mem_cons.mpr ⟨z_ix 315 (by decide +kernel), ?_⟩
  refine List.forall_mem_cons.mpr ⟨z_ix 316 (by decide +kernel), ?_⟩
  refine List.forall_mem_cons.mpr ⟨z_ix 317 (by decide +kernel), ?_⟩
  refine List.forall_mem_cons.mpr ⟨z_ix 318 (by decide +kernel), ?_⟩
  refine List.forall_mem_cons.mpr ⟨z_ix 79 (by decide +kernel), ?_⟩
  refine List.forall_mem_cons.mpr ⟨z_ix 81 (by decide +kernel), ?_⟩
  refine List.forall_mem_cons.mpr ⟨z_ix 83 (by decide +kernel), ?_⟩
  refine List.forall_mem_cons.mpr ⟨z_ix 85 (by decide +kernel), ?_⟩
  refine List.forall_mem_cons.mpr ⟨z_ix 88 (by decide +kernel), ?_⟩
  refine List.forall_mem_cons.mpr ⟨z_ix 91 (by decide +kernel), ?_⟩
  refine List.forall_mem_cons.mpr ⟨z_ix 94 (by decide +kernel), ?_⟩
  refine List.forall_mem_cons.mpr ⟨z_ix 97 (by decide +kernel), ?_⟩
  refine List.forall_mem_cons.mpr ⟨z_ix 419 (by decide +kernel), ?_⟩
  refine List.forall_mem_cons.mpr ⟨z_ix 421 (by decide +kernel), ?_⟩
  refine List.forall_mem_cons.mpr ⟨z_ix 151 (by decide +kernel), ?_⟩
  refine List.forall_mem_cons.mpr ⟨z_ix 293 (by decide +kernel), ?_⟩
  refine List.forall_mem_cons.mpr ⟨z_ix 295 (by decide +kernel), ?_⟩
  refine List.forall_mem_cons.mpr ⟨z_ix 507 (by decide +kernel), ?_⟩
  refine List.forall_mem_cons.mpr ⟨z_ix 513 (by decide +kernel), ?_⟩
  refine List.forall_mem_cons.mpr ⟨z_ix 515 (by decide +kernel), ?_⟩
  refine List.forall_mem_cons.mpr ⟨z_ix 417 (by decide +kernel), ?_⟩
  refine List.forall_mem_cons.mpr ⟨z_ix 380 (by decide +kernel), ?_⟩
  refine List.forall_mem_cons.mpr ⟨z_ix 509 (by decide +kernel), ?_⟩
  refine List.forall_mem_cons.mpr ⟨z_ix 381 (by decide +kernel), ?_⟩
  refine List.forall_mem_cons.mpr ⟨z_ix 511 (by decide +kernel), ?_⟩
  refine List.forall_mem_cons.mpr ⟨z_ix 519 (by decide +kernel), ?_⟩
  refine List.forall_mem_cons.mpr ⟨z_ix 321 (by decide +kernel), ?_⟩
  refine List.forall_mem_cons.mpr ⟨z_ix 517 (by decide +kernel), ?_⟩
  refine List.forall_mem_cons.mpr ⟨z_ix 319 (by decide +kernel), ?_⟩
  refine List.forall_mem_cons.mpr ⟨z_ix 660 (by decide +kernel), ?_⟩
  refine List.forall_mem_cons.mpr ⟨z_ix 662 (by decide +kernel), ?_⟩
  refine List.forall_mem_cons.mpr ⟨z_ix 663 (by decide +kernel), ?_⟩
  refine List.forall_mem_cons.mpr ⟨z_ix 244 (by decide +kernel), ?_⟩
  refine List.forall_mem_cons.mpr ⟨z_ix 240 (by decide +kernel), ?_⟩
  refine List.forall_mem_cons.mpr ⟨z_ix 242 (by decide +kernel), ?_⟩
  refine List.forall_mem_cons.mpr ⟨z_ix 668 (by decide +kernel), ?_⟩
  refine List.forall_mem_cons.mpr ⟨z_ix 667 (by decide +kernel), ?_⟩
  refine List.forall_mem_cons.mpr ⟨z_ix 665 (by decide +kernel), ?_⟩
  refine List.forall_mem_cons.mpr ⟨z_ix 650 (by decide +kernel), ?_⟩
  refine List.forall_mem_cons.mpr ⟨z_ix 652 (by decide +kernel), ?_⟩
  refine List.forall_mem_cons.mpr ⟨z_ix 578 (by decide +kernel), ?_⟩
  refine List.forall_mem_cons.mpr ⟨z_ix 581 (by decide +kernel), ?_⟩
  refine List.forall_mem_cons.mpr ⟨z_ix 584 (by decide +kernel), ?_⟩
  refine List.forall_mem_cons.mpr ⟨z_ix 297 (by decide +kernel), ?_⟩
  refine List.forall_mem_cons.mpr ⟨z_ix 299 (by decide +kernel), ?_⟩
  refine List.forall_mem_cons.mpr ⟨z_ix 817 (by decide +kernel), ?_⟩
  refine List.forall_mem_cons.mpr ⟨z_ix 815 (by decide +kernel), ?_⟩
  refine List.forall_mem_cons.mpr ⟨z_ix 415 (by decide +kernel), ?_⟩
  refine List.forall_mem_cons.mpr ⟨z_ix 412 (by decide +kernel), ?_⟩
  refine List.forall_mem_cons.mpr ⟨z_ix 571 (by decide +kernel), ?_⟩
  refine List.forall_mem_cons.mpr ⟨z_ix 409 (by decide +kernel), ?_⟩
  refine List.forall_mem_cons.mpr ⟨z_ix 573 (by decide +kernel), ?_⟩
  refine List.forall_mem_cons.mpr ⟨z_ix 575 (by decide +kernel), ?_⟩
  refine List.forall_mem_cons.mpr ⟨z_ix 648 (by decide +kernel), ?_⟩
  refine List.forall_mem_cons.mpr ⟨z_ix 654 (by decide +kernel), ?_⟩
  refine List.forall_mem_cons.mpr ⟨z_ix 656 (by decide +kernel), ?_⟩
  refine List.forall_mem_cons.mpr ⟨z_ix 376 (by decide +kernel), ?_⟩
  refine List.forall_mem_cons.mpr ⟨z_ix 320 (by decide +kernel), ?_⟩
  refine List.forall_mem_cons.mpr ⟨z_ix 238 (by decide +kernel), ?_⟩
  refine List.forall_mem_cons.mpr ⟨z_ix 246 (by decide +kernel), ?_⟩
  refine List.forall_mem_cons.mpr ⟨z_ix 266 (by decide +kernel), ?_⟩
  refine List.forall_mem_cons.mpr ⟨z_ix 268 (by decide +kernel), ?_⟩
  refine List.forall_mem_cons.mpr ⟨z_ix 270 (by decide +kernel), ?_⟩
  refine List.forall_mem_cons.mpr ⟨z_ix 156 (by decide +kernel), ?_⟩
  refine List.forall_mem_cons.mpr ⟨z_ix 149 (by decide +kernel), ?_⟩
  refine List.forall_mem_cons.mpr ⟨z_ix 153 (by decide +kernel), ?_⟩
  refine List.forall_mem_cons.mpr ⟨z_ix 274 (by decide +kernel), ?_⟩
  refine List.forall_mem_cons.mpr ⟨z_ix 658 (by decide +kernel), ?_⟩
  refine List.forall_mem_cons.mpr ⟨z_ix 272 (by decide +kernel), ?_⟩
  exact fun _ h => absurd h List.not_mem_nil
def z_Fk_14 : List (Nat × Nat × Nat) := [(9, 14, 1), (13, 14, 2), (16, 14, 3), (20, 14, 4), (23, 14, 5), (27, 14, 6), (30, 14, 7), (33, 14, 8), (36, 14, 9), (39, 14, 10), (42, 14, 11), (45, 14, 12), (48, 14, 13), (51, 14, 22), (54, 14, 23), (57, 14, 24), (60, 14, 25), (63, 14, 26), (66, 14, 27), (69, 14, 28), (72, 14, 29), (75, 14, 30), (78, 14, 31), (81, 14, 32), (84, 14, 33), (87, 14, 34), (90, 14, 35), (93, 14, 36), (96, 14, 37), (99, 14, 38), (102, 14, 39), (105, 14, 40), (108, 14, 41), (111, 14, 42), (114, 14, 43), (117, 14, 44), (120, 14, 45), (123, 14, 46), (126, 14, 47), (129, 14, 48), (133, 14, 49), (136, 14, 50), (139, 14, 51), (142, 14, 52), (145, 14, 53), (148, 14, 54), (151, 14, 55), (154, 14, 56), (157, 14, 57), (160, 14, 58), (163, 14, 59), (166, 14, 60), (169, 14, 61), (172, 14, 0), (199, 14, 15), (202, 14, 16), (212, 14, 19), (215, 14, 18), (218, 14, 20), (228, 14, 17), (242, 14, 14), (245, 14, 63), (264, 14, 64), (304, 14, 65), (307, 14, 66), (310, 14, 62), (329, 14, 21)]
theorem z_Fk_14_ok : ∀ q ∈ z_Fk_14, Cond.fieldLink (kO 14) q.1 (kT q.2.1 q.2.2).1 (kT q.2.1 q.2.2).2.1 (kT q.2.1 q.2.2).2.2.1 ∈ z_tbl := by
  unfold z_Fk_14
  refine List.forall_mem_cons.mpr ⟨z_ix 953 (by decide +kernel), ?_⟩
  refine List.forall_mem_cons.mpr ⟨z_ix 954 (by decide +kernel), ?_⟩
  refine List.forall_mem_cons.mpr ⟨z_ix 955 (by decide +kernel), ?_⟩
  refine List.forall_mem_cons.mpr ⟨z_ix 956 (by decide +kernel), ?_⟩
  refine List.forall_mem_cons.mpr ⟨z_ix 957 (by decide +kernel), ?_⟩
  refine List.forall_mem_cons.mpr ⟨z_ix 958 (by decide +kernel), ?_⟩
  refine List.forall_mem_cons.mpr ⟨z_ix 959 (by decide +kernel), ?_⟩
  refine List.forall_mem_cons.mpr ⟨z_ix 960 (by decide +kernel), ?_⟩
  refine List.forall_mem_cons.mpr ⟨z_ix 961 (by decide +kernel), ?_⟩
  refine List.forall_mem_cons.mpr ⟨z_ix 962 (by decide +kernel), ?_⟩
  refine List.forall_mem_cons.mpr ⟨z_ix 963 (by decide +kernel), ?_⟩
  refine List.forall_mem_cons.mpr ⟨z_ix 964 (by decide +kernel), ?_⟩
  refine List.forall_mem_cons.mpr ⟨z_ix 965 (by decide +kernel), ?_⟩
  refine List.forall_mem_cons.mpr ⟨z_ix 974 (by decide +kernel), ?_⟩
  refine List.forall_mem_cons.mpr ⟨z_ix 975 (by decide +kernel), ?_⟩
  refine List.forall_mem_cons.mpr ⟨z_ix 976 (by decide +kernel), ?_⟩
  refine List.forall_mem_cons.mpr ⟨z_ix 977 (by decide +kernel), ?_⟩
  refine List.forall_mem_cons.mpr ⟨z_ix 978 (by decide +kernel), ?_⟩
  refine List.forall_mem_cons.mpr ⟨z_ix 979 (by decide +kernel), ?_⟩
  refine List.forall_mem_cons.mpr ⟨z_ix 980 (by decide +kernel), ?_⟩
  refine List.forall_mem_cons.mpr ⟨z_ix 981 (by decide +kernel), ?_⟩
  refine List.forall_mem_cons.mpr ⟨z_ix 982 (by decide +kernel), ?_⟩
  refine List.forall_mem_cons.mpr ⟨z_ix 983 (by decide +kernel), ?_⟩
  refine List.forall_mem_cons.mpr ⟨z_ix 984 (by decide +kernel), ?_⟩
  refine List.forall_mem_cons.mpr ⟨z_ix 985 (by decide +kernel), ?_⟩
  refine List.forall_mem_cons.mpr ⟨z_ix 986 (by decide +kernel), ?_⟩
  refine List.forall_mem_cons.mpr ⟨z_ix 987 (by decide +kernel), ?_⟩
  refine List.forall_mem_cons.mpr ⟨z_ix 988 (by decide +kernel), ?_⟩
  refine List.forall_mem_cons.mpr ⟨z_ix 989 (by decide +kernel), ?_⟩
  refine List.forall_mem_cons.mpr ⟨z_ix 990 (by decide +kernel), ?_⟩
  refine List.forall_mem_cons.mpr ⟨z_ix 991 (by decide +kernel), ?_⟩
  refine List.forall_mem_cons.mpr ⟨z_ix 992 (by decide +kernel), ?_⟩
  refine List.forall_mem_cons.mpr ⟨z_ix 993 (by decide +kernel), ?_⟩
  refine List.forall_mem_cons.mpr ⟨z_ix 994 (by decide +kernel), ?_⟩
  refine List.forall_mem_cons.mpr ⟨z_ix 995 (by decide +kernel), ?_⟩
  refine List.forall_mem_cons.mpr ⟨z_ix 996 (by decide +kernel), ?_⟩
  refine List.forall_mem_cons.mpr ⟨z_ix 997 (by decide +kernel), ?_⟩
  refine List.forall_mem_cons.mpr ⟨z_ix 998 (by decide +kernel), ?_⟩
  refine List.forall_mem_cons.mpr ⟨z_ix 999 (by decide +kernel), ?_⟩
  refine List.forall_mem_cons.mpr ⟨z_ix 1000 (by decide +kernel), ?_⟩
  refine List.forall_mem_cons.mpr ⟨z_ix 1001 (by decide +kernel), ?_⟩
  refine List.forall_mem_cons.mpr ⟨z_ix 1002 (by decide +kernel), ?_⟩
  refine List.forall_mem_cons.mpr ⟨z_ix 1003 (by decide +kernel), ?_⟩
  refine List.forall_mem_cons.mpr ⟨z_ix 1004 (by decide +kernel), ?_⟩
  refine List.forall_mem_cons.mpr ⟨z_ix 1005 (by decide +kernel), ?_⟩
  refine List.forall_mem_cons.mpr ⟨z_ix 1006 (by decide +kernel), ?_⟩
  refine List.forall_mem_cons.mpr ⟨z_ix 1007 (by decide +kernel), ?_⟩
  refine List.forall_mem_cons.mpr ⟨z_ix 1008 (by decide +kernel), ?_⟩
  refine List.forall_mem_cons.mpr ⟨z_ix 1009 (by decide +kernel), ?_⟩
  refine List.forall_mem_cons.mpr ⟨z_ix 1010 (by decide +kernel), ?_⟩
  refine List.forall_mem_cons.mpr ⟨z_ix 1011 (by decide +kernel), ?_⟩
  refine List.forall_mem_cons.mpr ⟨z_ix 1012 (by decide +kernel), ?_⟩
  refine List.forall_mem_cons.mpr ⟨z_ix 1013 (by decide +kernel), ?_⟩
  refine List.forall_mem_cons.mpr ⟨z_ix 952 (by decide +kernel), ?_⟩
  refine List.forall_mem_cons.mpr ⟨z_ix 967 (by decide +kernel), ?_⟩
  refine List.forall_mem_cons.mpr ⟨z_ix 968 (by decide +kernel), ?_⟩
  refine List.forall_mem_cons.mpr ⟨z_ix 971 (by decide +kernel), ?_⟩
  refine List.forall_mem_cons.mpr ⟨z_ix 970 (by decide +kernel), ?_⟩
  refine List.forall_mem_cons.mpr ⟨z_ix 972 (by decide +kernel), ?_⟩
  refine List.forall_mem_cons.mpr ⟨z_ix 969 (by decide +kernel), ?_⟩
  refine List.forall_mem_cons.mpr ⟨z_ix 966 (by decide +kernel), ?_⟩
  refine List.forall_mem_cons.mpr ⟨z_ix 1015 (by decide +kernel), ?_⟩
  refine List.forall_mem_cons.mpr ⟨z_ix 1016 (by decide +kernel), ?_⟩
  refine List.forall_mem_cons.mpr ⟨z_ix 1017 (by decide +kernel), ?_⟩
  refine List.forall_mem_cons.mpr ⟨z_ix 1018 (by decide +kernel), ?_⟩
  refine List.forall_mem_cons.mpr ⟨z_ix 1014 (by decide +kernel), ?_⟩
  refine List.forall_mem_cons.mpr ⟨z_ix 973 (by decide +kernel), ?_⟩
  exact fun _ h => absurd h List.not_mem_nil
def z_Fk (yk : Nat) : List (Nat × Nat × Nat) := match yk with | 2 => z_Fk_2 | 3 => z_Fk_3 | 4 => z_Fk_4 | 5 => z_Fk_5 | 6 => z_Fk_6 | 7 => z_Fk_7 | 8 => z_Fk_8 | 9 => z_Fk_9 | 10 => z_Fk_10 | 11 => z_Fk_11 | 12 => z_Fk_12 | 13 => z_Fk_13 | 14 => z_Fk_14 | _ => []
theorem z_Fk_ok {yk : Nat} {q : Nat × Nat × Nat} (h : q ∈ z_Fk yk) : Cond.fieldLink (kO yk) q.1 (kT q.2.1 q.2.2).1 (kT q.2.1 q.2.2).2.1 (kT q.2.1 q.2.2).2.2.1 ∈ z_tbl := by
  unfold z_Fk at h
  split at h
  · exact z_Fk_2_ok q h
  · exact z_Fk_3_ok q h
  · exact z_Fk_4_ok q h
  · exact z_Fk_5_ok q h
  · exact z_Fk_6_ok q h
  · exact z_Fk_7_ok q h
  · exact z_Fk_8_ok q h
  · exact z_Fk_9_ok q h
  · exact z_Fk_10_ok q h
  · exact z_Fk_11_ok q h
  · exact z_Fk_12_ok q h
  · exact z_Fk_13_ok q h
  · exact z_Fk_14_ok q h
  · cases h
def z_Lk_3 : List (Nat × Int) := [(29, -100), (31, 300), (52, 1000)]
theorem z_Lk_3_ok : ∀ q ∈ z_Lk_3, Cond.constantLong (kO 3) q.1 (Int64.ofInt q.2) ∈ z_tbl := by
  unfold z_Lk_3
  refine List.forall_mem_cons.mpr ⟨z_ix 759 (by decide +kernel), ?_⟩
  refine List.forall_mem_cons.mpr ⟨z_ix 760 (by decide +kernel), ?_⟩
  refine List.forall_mem_cons.mpr ⟨z_ix 753 (by decide +kernel), ?_⟩
  exact fun _ h => absurd h List.not_mem_nil
def z_Lk_4 : List (Nat × Int) := [(22, 1000)]
theorem z_Lk_4_ok : ∀ q ∈ z_Lk_4, Cond.constantLong (kO 4) q.1 (Int64.ofInt q.2) ∈ z_tbl := by
  unfold z_Lk_4
  refine List.forall_mem_cons.mpr ⟨z_ix 499 (by decide +kernel), ?_⟩
  exact fun _ h => absurd h List.not_mem_nil
def z_Lk_5 : List (Nat × Int) := [(95, 9), (101, 2), (107, 10)]
theorem z_Lk_5_ok : ∀ q ∈ z_Lk_5, Cond.constantLong (kO 5) q.1 (Int64.ofInt q.2) ∈ z_tbl := by
  unfold z_Lk_5
  refine List.forall_mem_cons.mpr ⟨z_ix 740 (by decide +kernel), ?_⟩
  refine List.forall_mem_cons.mpr ⟨z_ix 785 (by decide +kernel), ?_⟩
  refine List.forall_mem_cons.mpr ⟨z_ix 739 (by decide +kernel), ?_⟩
  exact fun _ h => absurd h List.not_mem_nil
def z_Lk_13 : List (Nat × Int) := [(66, 100000), (72, 100), (74, 1000), (76, -100), (78, 300), (123, 99), (125, 5000), (166, -2), (189, -7), (191, -3), (198, -8), (213, 23), (295, 4), (297, -5), (318, 31), (323, -1), (330, 1000000000), (391, 3), (429, 8)]
theorem z_Lk_13_ok : ∀ q ∈ z_Lk_13, Cond.constantLong (kO 13) q.1 (Int64.ofInt q.2) ∈ z_tbl := by
  unfold z_Lk_13
  refine List.forall_mem_cons.mpr ⟨z_ix 353 (by decide +kernel), ?_⟩
  refine List.forall_mem_cons.mpr ⟨z_ix 357 (by decide +kernel), ?_⟩
  refine List.forall_mem_cons.mpr ⟨z_ix 358 (by decide +kernel), ?_⟩
  refine List.forall_mem_cons.mpr ⟨z_ix 359 (by decide +kernel), ?_⟩
  refine List.forall_mem_cons.mpr ⟨z_ix 360 (by decide +kernel), ?_⟩
  refine List.forall_mem_cons.mpr ⟨z_ix 459 (by decide +kernel), ?_⟩
  refine List.forall_mem_cons.mpr ⟨z_ix 460 (by decide +kernel), ?_⟩
  refine List.forall_mem_cons.mpr ⟨z_ix 611 (by decide +kernel), ?_⟩
  refine List.forall_mem_cons.mpr ⟨z_ix 616 (by decide +kernel), ?_⟩
  refine List.forall_mem_cons.mpr ⟨z_ix 617 (by decide +kernel), ?_⟩
  refine List.forall_mem_cons.mpr ⟨z_ix 618 (by decide +kernel), ?_⟩
  refine List.forall_mem_cons.mpr ⟨z_ix 635 (by decide +kernel), ?_⟩
  refine List.forall_mem_cons.mpr ⟨z_ix 802 (by decide +kernel), ?_⟩
  refine List.forall_mem_cons.mpr ⟨z_ix 803 (by decide +kernel), ?_⟩
  refine List.forall_mem_cons.mpr ⟨z_ix 831 (by decide +kernel), ?_⟩
  refine List.forall_mem_cons.mpr ⟨z_ix 836 (by decide +kernel), ?_⟩
  refine List.forall_mem_cons.mpr ⟨z_ix 640 (by decide +kernel), ?_⟩
  refine List.forall_mem_cons.mpr ⟨z_ix 920 (by decide +kernel), ?_⟩
  refine List.forall_mem_cons.mpr ⟨z_ix 710 (by decide +kernel), ?_⟩
  exact fun _ h => absurd h List.not_mem_nil
def z_Lk_14 : List (Nat × Int) := [(175, 3), (189, 100000), (191, 100), (193, 1000), (195, -100), (197, 300), (208, 99), (210, 5000), (256, -2), (258, -7), (260, -3), (262, -8), (271, 1000000000), (273, 23), (279, 8), (281, 10), (317, 2), (319, 9), (321, 4), (323, -5), (327, 9223372036854775807), (332, 31), (334, -1)]
theorem z_Lk_14_ok : ∀ q ∈ z_Lk_14, Cond.constantLong (kO 14) q.1 (Int64.ofInt q.2) ∈ z_tbl := by
  unfold z_Lk_14
  refine List.forall_mem_cons.mpr ⟨z_ix 1162 (by decide +kernel), ?_⟩
  refine List.forall_mem_cons.mpr ⟨z_ix 1185 (by decide +kernel), ?_⟩
  refine List.forall_mem_cons.mpr ⟨z_ix 1186 (by decide +kernel), ?_⟩
  refine List.forall_mem_cons.mpr ⟨z_ix 1187 (by decide +kernel), ?_⟩
  refine List.forall_mem_cons.mpr ⟨z_ix 1188 (by decide +kernel), ?_⟩
  refine List.forall_mem_cons.mpr ⟨z_ix 1189 (by decide +kernel), ?_⟩
  refine List.forall_mem_cons.mpr ⟨z_ix 1206 (by decide +kernel), ?_⟩
  refine List.forall_mem_cons.mpr ⟨z_ix 1207 (by decide +kernel), ?_⟩
  refine List.forall_mem_cons.mpr ⟨z_ix 1244 (by decide +kernel), ?_⟩
  refine List.forall_mem_cons.mpr ⟨z_ix 1245 (by decide +kernel), ?_⟩
  refine List.forall_mem_cons.mpr ⟨z_ix 1246 (by decide +kernel), ?_⟩
  refine List.forall_mem_cons.mpr ⟨z_ix 1247 (by decide +kernel), ?_⟩
  refine List.forall_mem_cons.mpr ⟨z_ix 1269 (by decide +kernel), ?_⟩
  refine List.forall_mem_cons.mpr ⟨z_ix 1264 (by decide +kernel), ?_⟩
  refine List.forall_mem_cons.mpr ⟨z_ix 1278 (by decide +kernel), ?_⟩
  refine List.forall_mem_cons.mpr ⟨z_ix 1291 (by decide +kernel), ?_⟩
  refine List.forall_mem_cons.mpr ⟨z_ix 1303 (by decide +kernel), ?_⟩
  refine List.forall_mem_cons.mpr ⟨z_ix 1304 (by decide +kernel), ?_⟩
  refine List.forall_mem_cons.mpr ⟨z_ix 1317 (by decide +kernel), ?_⟩
  refine List.forall_mem_cons.mpr ⟨z_ix 1318 (by decide +kernel), ?_⟩
  refine List.forall_mem_cons.mpr ⟨z_ix 1319 (by decide +kernel), ?_⟩
  refine List.forall_mem_cons.mpr ⟨z_ix 1328 (by decide +kernel), ?_⟩
  refine List.forall_mem_cons.mpr ⟨z_ix 1333 (by decide +kernel), ?_⟩
  exact fun _ h => absurd h List.not_mem_nil
def z_Lk_16 : List (Nat × Int) := [(50, 4294967295)]
theorem z_Lk_16_ok : ∀ q ∈ z_Lk_16, Cond.constantLong (kO 16) q.1 (Int64.ofInt q.2) ∈ z_tbl := by
  unfold z_Lk_16
  refine List.forall_mem_cons.mpr ⟨z_ix 1394 (by decide +kernel), ?_⟩
  exact fun _ h => absurd h List.not_mem_nil
def z_Lk (yk : Nat) : List (Nat × Int) := match yk with | 3 => z_Lk_3 | 4 => z_Lk_4 | 5 => z_Lk_5 | 13 => z_Lk_13 | 14 => z_Lk_14 | 16 => z_Lk_16 | _ => []
theorem z_Lk_ok {yk : Nat} {q : Nat × Int} (h : q ∈ z_Lk yk) : Cond.constantLong (kO yk) q.1 (Int64.ofInt q.2) ∈ z_tbl := by
  unfold z_Lk at h
  split at h
  · exact z_Lk_3_ok q h
  · exact z_Lk_4_ok q h
  · exact z_Lk_5_ok q h
  · exact z_Lk_13_ok q h
  · exact z_Lk_14_ok q h
  · exact z_Lk_16_ok q h
  · cases h
def z_Nk_5 : List (Nat × Nat) := [(33, 6)]
theorem z_Nk_5_ok : ∀ q ∈ z_Nk_5, Cond.classLink (kO 5) q.1 (kR q.2) ∈ z_tbl := by
  unfold z_Nk_5
  refine List.forall_mem_cons.mpr ⟨z_ix 539 (by decide +kernel), ?_⟩
  exact fun _ h => absurd h List.not_mem_nil
def z_Nk_13 : List (Nat × Nat) := [(7, 11), (38, 10), (45, 5), (52, 3), (59, 12), (109, 4), (114, 2), (169, 9), (227, 8), (309, 7)]
theorem z_Nk_13_ok : ∀ q ∈ z_Nk_13, Cond.classLink (kO 13) q.1 (kR q.2) ∈ z_tbl := by
  unfold z_Nk_13
  refine List.forall_mem_cons.mpr ⟨z_ix 72 (by decide +kernel), ?_⟩
  refine List.forall_mem_cons.mpr ⟨z_ix 141 (by decide +kernel), ?_⟩
  refine List.forall_mem_cons.mpr ⟨z_ix 229 (by decide +kernel), ?_⟩
  refine List.forall_mem_cons.mpr ⟨z_ix 259 (by decide +kernel), ?_⟩
  refine List.forall_mem_cons.mpr ⟨z_ix 286 (by decide +kernel), ?_⟩
  refine List.forall_mem_cons.mpr ⟨z_ix 369 (by decide +kernel), ?_⟩
  refine List.forall_mem_cons.mpr ⟨z_ix 399 (by decide +kernel), ?_⟩
  refine List.forall_mem_cons.mpr ⟨z_ix 500 (by decide +kernel), ?_⟩
  refine List.forall_mem_cons.mpr ⟨z_ix 641 (by decide +kernel), ?_⟩
  refine List.forall_mem_cons.mpr ⟨z_ix 808 (by decide +kernel), ?_⟩
  exact fun _ h => absurd h List.not_mem_nil
def z_Nk_16 : List (Nat × Nat) := [(7, 13), (10, 14)]
theorem z_Nk_16_ok : ∀ q ∈ z_Nk_16, Cond.classLink (kO 16) q.1 (kR q.2) ∈ z_tbl := by
  unfold z_Nk_16
  refine List.forall_mem_cons.mpr ⟨z_ix 64 (by decide +kernel), ?_⟩
  refine List.forall_mem_cons.mpr ⟨z_ix 946 (by decide +kernel), ?_⟩
  exact fun _ h => absurd h List.not_mem_nil
def z_Nk (yk : Nat) : List (Nat × Nat) := match yk with | 5 => z_Nk_5 | 13 => z_Nk_13 | 16 => z_Nk_16 | _ => []
theorem z_Nk_ok {yk : Nat} {q : Nat × Nat} (h : q ∈ z_Nk yk) : Cond.classLink (kO yk) q.1 (kR q.2) ∈ z_tbl := by
  unfold z_Nk at h
  split at h
  · exact z_Nk_5_ok q h
  · exact z_Nk_13_ok q h
  · exact z_Nk_16_ok q h
  · cases h
def z_Pk_2 : List (Nat × Nat) := [(3, 7), (24, 20), (26, 8), (31, 1), (35, 2), (39, 21), (41, 5)]
theorem z_Pk_2_ok : ∀ q ∈ z_Pk_2, z_prim (kO 2) q.1 q.2 ∈ z_tbl := by
  unfold z_Pk_2
  refine List.forall_mem_cons.mpr ⟨z_ix 404 (by decide +kernel), ?_⟩
  refine List.forall_mem_cons.mpr ⟨z_ix 405 (by decide +kernel), ?_⟩
  refine List.forall_mem_cons.mpr ⟨z_ix 406 (by decide +kernel), ?_⟩
  refine List.forall_mem_cons.mpr ⟨z_ix 861 (by decide +kernel), ?_⟩
  refine List.forall_mem_cons.mpr ⟨z_ix 862 (by decide +kernel), ?_⟩
  refine List.forall_mem_cons.mpr ⟨z_ix 863 (by decide +kernel), ?_⟩
  refine List.forall_mem_cons.mpr ⟨z_ix 864 (by decide +kernel), ?_⟩
  exact fun _ h => absurd h List.not_mem_nil
def z_Pk_3 : List (Nat × Nat) := [(1, 7)]
theorem z_Pk_3_ok : ∀ q ∈ z_Pk_3, z_prim (kO 3) q.1 q.2 ∈ z_tbl := by
  unfold z_Pk_3
  refine List.forall_mem_cons.mpr ⟨z_ix 264 (by decide +kernel), ?_⟩
  exact fun _ h => absurd h List.not_mem_nil
def z_Pk_4 : List (Nat × Nat) := [(1, 7)]
theorem z_Pk_4_ok : ∀ q ∈ z_Pk_4, z_prim (kO 4) q.1 q.2 ∈ z_tbl := by
  unfold z_Pk_4
  refine List.forall_mem_cons.mpr ⟨z_ix 374 (by decide +kernel), ?_⟩
  exact fun _ h => absurd h List.not_mem_nil
def z_Pk_5 : List (Nat × Nat) := [(3, 7), (9, 20), (11, 8), (25, 1), (29, 2), (42, 3), (60, 4)]
theorem z_Pk_5_ok : ∀ q ∈ z_Pk_5, z_prim (kO 5) q.1 q.2 ∈ z_tbl := by
  unfold z_Pk_5
  refine List.forall_mem_cons.mpr ⟨z_ix 234 (by decide +kernel), ?_⟩
  refine List.forall_mem_cons.mpr ⟨z_ix 235 (by decide +kernel), ?_⟩
  refine List.forall_mem_cons.mpr ⟨z_ix 236 (by decide +kernel), ?_⟩
  refine List.forall_mem_cons.mpr ⟨z_ix 598 (by decide +kernel), ?_⟩
  refine List.forall_mem_cons.mpr ⟨z_ix 773 (by decide +kernel), ?_⟩
  refine List.forall_mem_cons.mpr ⟨z_ix 565 (by decide +kernel), ?_⟩
  refine List.forall_mem_cons.mpr ⟨z_ix 545 (by decide +kernel), ?_⟩
  exact fun _ h => absurd h List.not_mem_nil
def z_Pk_6 : List (Nat × Nat) := [(3, 7)]
theorem z_Pk_6_ok : ∀ q ∈ z_Pk_6, z_prim (kO 6) q.1 q.2 ∈ z_tbl := by
  unfold z_Pk_6
  refine List.forall_mem_cons.mpr ⟨z_ix 569 (by decide +kernel), ?_⟩
  exact fun _ h => absurd h List.not_mem_nil
def z_Pk_7 : List (Nat × Nat) := [(3, 7)]
theorem z_Pk_7_ok : ∀ q ∈ z_Pk_7, z_prim (kO 7) q.1 q.2 ∈ z_tbl := by
  unfold z_Pk_7
  refine List.forall_mem_cons.mpr ⟨z_ix 813 (by decide +kernel), ?_⟩
  exact fun _ h => absurd h List.not_mem_nil
def z_Pk_8 : List (Nat × Nat) := [(3, 7)]
theorem z_Pk_8_ok : ∀ q ∈ z_Pk_8, z_prim (kO 8) q.1 q.2 ∈ z_tbl := by
  unfold z_Pk_8
  refine List.forall_mem_cons.mpr ⟨z_ix 646 (by decide +kernel), ?_⟩
  exact fun _ h => absurd h List.not_mem_nil
def z_Pk_9 : List (Nat × Nat) := [(3, 7)]
theorem z_Pk_9_ok : ∀ q ∈ z_Pk_9, z_prim (kO 9) q.1 q.2 ∈ z_tbl := by
  unfold z_Pk_9
  refine List.forall_mem_cons.mpr ⟨z_ix 505 (by decide +kernel), ?_⟩
  exact fun _ h => absurd h List.not_mem_nil
def z_Pk_10 : List (Nat × Nat) := [(3, 7)]
theorem z_Pk_10_ok : ∀ q ∈ z_Pk_10, z_prim (kO 10) q.1 q.2 ∈ z_tbl := by
  unfold z_Pk_10
  refine List.forall_mem_cons.mpr ⟨z_ix 146 (by decide +kernel), ?_⟩
  exact fun _ h => absurd h List.not_mem_nil
def z_Pk_11 : List (Nat × Nat) := [(1, 7)]
theorem z_Pk_11_ok : ∀ q ∈ z_Pk_11, z_prim (kO 11) q.1 q.2 ∈ z_tbl := by
  unfold z_Pk_11
  refine List.forall_mem_cons.mpr ⟨z_ix 77 (by decide +kernel), ?_⟩
  exact fun _ h => absurd h List.not_mem_nil
def z_Pk_12 : List (Nat × Nat) := [(3, 7)]
theorem z_Pk_12_ok : ∀ q ∈ z_Pk_12, z_prim (kO 12) q.1 q.2 ∈ z_tbl := by
  unfold z_Pk_12
  refine List.forall_mem_cons.mpr ⟨z_ix 291 (by decide +kernel), ?_⟩
  exact fun _ h => absurd h List.not_mem_nil
def z_Pk_13 : List (Nat × Nat) := [(1, 7), (16, 20), (18, 8), (41, 3), (105, 1), (325, 2), (414, 6)]
theorem z_Pk_13_ok : ∀ q ∈ z_Pk_13, z_prim (kO 13) q.1 q.2 ∈ z_tbl := by
  unfold z_Pk_13
  refine List.forall_mem_cons.mpr ⟨z_ix 69 (by decide +kernel), ?_⟩
  refine List.forall_mem_cons.mpr ⟨z_ix 115 (by decide +kernel), ?_⟩
  refine List.forall_mem_cons.mpr ⟨z_ix 117 (by decide +kernel), ?_⟩
  refine List.forall_mem_cons.mpr ⟨z_ix 167 (by decide +kernel), ?_⟩
  refine List.forall_mem_cons.mpr ⟨z_ix 365 (by decide +kernel), ?_⟩
  refine List.forall_mem_cons.mpr ⟨z_ix 445 (by decide +kernel), ?_⟩
  refine List.forall_mem_cons.mpr ⟨z_ix 945 (by decide +kernel), ?_⟩
  exact fun _ h => absurd h List.not_mem_nil
def z_Pk_14 : List (Nat × Nat) := [(1, 7)]
theorem z_Pk_14_ok : ∀ q ∈ z_Pk_14, z_prim (kO 14) q.1 q.2 ∈ z_tbl := by
  unfold z_Pk_14
  refine List.forall_mem_cons.mpr ⟨z_ix 951 (by decide +kernel), ?_⟩
  exact fun _ h => absurd h List.not_mem_nil
def z_Pk (yk : Nat) : List (Nat × Nat) := match yk with | 2 => z_Pk_2 | 3 => z_Pk_3 | 4 => z_Pk_4 | 5 => z_Pk_5 | 6 => z_Pk_6 | 7 => z_Pk_7 | 8 => z_Pk_8 | 9 => z_Pk_9 | 10 => z_Pk_10 | 11 => z_Pk_11 | 12 => z_Pk_12 | 13 => z_Pk_13 | 14 => z_Pk_14 | _ => []
theorem z_Pk_ok {yk : Nat} {q : Nat × Nat} (h : q ∈ z_Pk yk) : z_prim (kO yk) q.1 q.2 ∈ z_tbl := by
  unfold z_Pk at h
  split at h
  · exact z_Pk_2_ok q h
  · exact z_Pk_3_ok q h
  · exact z_Pk_4_ok q h
  · exact z_Pk_5_ok q h
  · exact z_Pk_6_ok q h
  · exact z_Pk_7_ok q h
  · exact z_Pk_8_ok q h
  · exact z_Pk_9_ok q h
  · exact z_Pk_10_ok q h
  · exact z_Pk_11_ok q h
  · exact z_Pk_12_ok q h
  · exact z_Pk_13_ok q h
  · exact z_Pk_14_ok q h
  · cases h
theorem z_new_ok {K : Nat} (h : z_obj K = true) : Cond.instantiable (kR K) (kF K) ∈ z_tbl ∧ Cond.initialized (kR K) ∈ z_tbl := by
  have h2 : K = 2 ∨ K = 3 ∨ K = 4 ∨ K = 5 ∨ K = 6 ∨ K = 7 ∨ K = 8 ∨ K = 9 ∨ K = 10 ∨ K = 11 ∨ K = 12 ∨ K = 13 ∨ K = 14 := by
    simp only [z_obj, Bool.and_eq_true, decide_eq_true_eq] at h
    omega
  rcases h2 with rfl | rfl | rfl | rfl | rfl | rfl | rfl | rfl | rfl | rfl | rfl | rfl | rfl
  · exact ⟨z_ix 400 (by decide +kernel), z_ix 54 (by decide +kernel)⟩
  · exact ⟨z_ix 260 (by decide +kernel), z_ix 50 (by decide +kernel)⟩
  · exact ⟨z_ix 370 (by decide +kernel), z_ix 53 (by decide +kernel)⟩
  · exact ⟨z_ix 230 (by decide +kernel), z_ix 49 (by decide +kernel)⟩
  · exact ⟨z_ix 540 (by decide +kernel), z_ix 58 (by decide +kernel)⟩
  · exact ⟨z_ix 809 (by decide +kernel), z_ix 63 (by decide +kernel)⟩
  · exact ⟨z_ix 642 (by decide +kernel), z_ix 62 (by decide +kernel)⟩
  · exact ⟨z_ix 501 (by decide +kernel), z_ix 57 (by decide +kernel)⟩
  · exact ⟨z_ix 142 (by decide +kernel), z_ix 44 (by decide +kernel)⟩
  · exact ⟨z_ix 73 (by decide +kernel), z_ix 40 (by decide +kernel)⟩
  · exact ⟨z_ix 287 (by decide +kernel), z_ix 51 (by decide +kernel)⟩
  · exact ⟨z_ix 65 (by decide +kernel), z_ix 39 (by decide +kernel)⟩
  · exact ⟨z_ix 947 (by decide +kernel), z_ix 52 (by decide +kernel)⟩
theorem z_obj_ok : Cond.instanceMethod Lib.objectInit ∈ z_tbl ∧ Cond.code Lib.objectInit ⟨#[0xb1]⟩ 1 none ∈ z_tbl := ⟨z_ix 70 (by decide +kernel), z_ix 71 (by decide +kernel)⟩
theorem z_arrc_ok (c : Nat) : Cond.arrayClass (aTy c) ∈ z_tbl := by
  unfold aTy
  split
  · exact z_ix 258 (by decide +kernel)
  · exact z_ix 166 (by decide +kernel)
  · exact z_ix 1154 (by decide +kernel)
