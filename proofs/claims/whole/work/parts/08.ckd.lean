theorem z_ckl_388 : z_ckt 10 false (some .boolean) code 388 ((tb_law.drop 388).take 97) = true := by decide +kernel
theorem z_ckl_485 : z_ckt 10 false (some .boolean) code 485 ((tb_law.drop 485).take 97) = true := by decide +kernel
theorem z_ckl_582 : z_ckt 10 false (some .boolean) code 582 ((tb_law.drop 582).take 97) = true := by decide +kernel
theorem z_ckl_679 : z_ckt 10 false (some .boolean) code 679 ((tb_law.drop 679).take 97) = true := by decide +kernel
theorem z_ckl_776 : z_ckt 10 false (some .boolean) code 776 ((tb_law.drop 776).take 97) = true := by decide +kernel
theorem z_ck_law : z_ckt 10 false (some .boolean) code 0 tb_law = true := by
  have e776 : z_ckt 10 false (some .boolean) code 776 (tb_law.drop 776) = true := by
    refine z_ckt_app _ _ _ _ 97 _ _ z_ckl_776 ?_
    rw [List.drop_drop, List.drop_eq_nil_of_le (by decide +kernel)]
    rfl
  have e679 : z_ckt 10 false (some .boolean) code 679 (tb_law.drop 679) = true := z_ckt_app _ _ _ _ 97 _ _ z_ckl_679 (by rw [List.drop_drop]; exact e776)
  have e582 : z_ckt 10 false (some .boolean) code 582 (tb_law.drop 582) = true := z_ckt_app _ _ _ _ 97 _ _ z_ckl_582 (by rw [List.drop_drop]; exact e679)
  have e485 : z_ckt 10 false (some .boolean) code 485 (tb_law.drop 485) = true := z_ckt_app _ _ _ _ 97 _ _ z_ckl_485 (by rw [List.drop_drop]; exact e582)
  have e388 : z_ckt 10 false (some .boolean) code 388 (tb_law.drop 388) = true := z_ckt_app _ _ _ _ 97 _ _ z_ckl_388 (by rw [List.drop_drop]; exact e485)
  have e291 : z_ckt 10 false (some .boolean) code 291 (tb_law.drop 291) = true := z_ckt_app _ _ _ _ 97 _ _ z_ckl_291 (by rw [List.drop_drop]; exact e388)
  have e194 : z_ckt 10 false (some .boolean) code 194 (tb_law.drop 194) = true := z_ckt_app _ _ _ _ 97 _ _ z_ckl_194 (by rw [List.drop_drop]; exact e291)
  have e97 : z_ckt 10 false (some .boolean) code 97 (tb_law.drop 97) = true := z_ckt_app _ _ _ _ 97 _ _ z_ckl_97 (by rw [List.drop_drop]; exact e194)
  have e0 : z_ckt 10 false (some .boolean) code 0 (tb_law.drop 0) = true := z_ckt_app _ _ _ _ 97 _ _ z_ckl_0 (by rw [List.drop_drop]; exact e97)
  exact e0
