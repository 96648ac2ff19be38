/-! the words of the law among the tables' words, a piece at a time -/
theorem mem_ix {big ws : List Cond} (ps : List Nat) (hp : ws = ps.filterMap (fun i => big[i]?)) : ∀ w ∈ ws, w ∈ big := by
  intro w hw
  rw [hp] at hw
  obtain ⟨i, -, hi⟩ := List.mem_filterMap.mp hw
  exact List.mem_of_getElem? hi
theorem all_app {a b big : List Cond} (ha : ∀ w ∈ a, w ∈ big) (hb : ∀ w ∈ b, w ∈ big) : ∀ w ∈ a ++ b, w ∈ big := fun w h => (List.mem_append.mp h).elim (ha w) (hb w)
theorem lwi_1 : ∀ w ∈ wsL_law0_r1, w ∈ lw_tbl := mem_ix [50, 51, 23, 665, 666, 29, 1186, 52, 53, 54, 55, 56, 57, 58, 59, 24, 191, 192, 189, 71, 26, 193, 61, 62] (by decide +kernel)
theorem lwi_2 : ∀ w ∈ wsL_law0_r2, w ∈ lw_tbl := mem_ix [63, 64, 65, 25, 155, 108, 109, 27, 157, 141, 142, 28, 159, 153, 161, 165, 67, 68, 69, 70, 81, 84, 86, 88] (by decide +kernel)
theorem lwi_3 : ∀ w ∈ wsL_law0_r3, w ∈ lw_tbl := mem_ix [90, 72, 73, 74, 75, 80, 76, 111, 112, 113, 114, 116, 117, 119, 120, 123, 115, 144, 145, 146, 147, 149, 148, 154] (by decide +kernel)
theorem lwi_4 : ∀ w ∈ wsL_law0_r4, w ∈ lw_tbl := mem_ix [190, 667, 668, 669, 670, 712, 714, 716, 718, 719, 722, 724, 726, 671, 672, 30, 729, 730, 674, 675, 691, 676, 679, 683] (by decide +kernel)
theorem lwi_5 : ∀ w ∈ wsL_law0_r5, w ∈ lw_tbl := mem_ix [685, 687, 689, 288, 289, 22, 290, 291, 292, 293, 294, 295, 296, 300, 34, 370, 35, 156, 93, 297, 298, 299, 386, 387] (by decide +kernel)
theorem lwi_6 : ∀ w ∈ wsL_law0_r6, w ∈ lw_tbl := mem_ix [388, 389, 92, 390, 391, 392, 393, 766, 767, 768, 769, 709, 710, 770, 771, 772, 773, 775, 14, 776, 762, 763, 764, 765] (by decide +kernel)
theorem lwi_7 : ∀ w ∈ wsL_law0_r7, w ∈ lw_tbl := mem_ix [394, 395, 396, 397, 398, 399, 400, 401, 402, 36, 162, 258, 217, 218, 219, 419, 777, 778, 779, 780, 420, 421, 422, 423] (by decide +kernel)
theorem lwi_8 : ∀ w ∈ wsL_law0_r8, w ∈ lw_tbl := mem_ix [424, 425, 426, 158, 126, 163, 427, 428, 429, 430, 434, 435, 436, 437, 87, 82, 438, 439, 440, 441, 213, 214, 215, 442] (by decide +kernel)
theorem lwi_9 : ∀ w ∈ wsL_law0_r9, w ∈ lw_tbl := mem_ix [443, 444, 445, 446, 220, 447, 449, 5, 450, 451, 452, 37, 453, 454, 455, 456, 457, 125, 458, 781, 782, 783, 784, 721] (by decide +kernel)
theorem lwi_10 : ∀ w ∈ wsL_law0_r10, w ∈ lw_tbl := mem_ix [785, 787, 15, 788, 789, 790, 791, 792, 793, 459, 460, 461, 462, 463, 464, 465, 122, 466, 467, 468, 469, 472, 473, 474] (by decide +kernel)
