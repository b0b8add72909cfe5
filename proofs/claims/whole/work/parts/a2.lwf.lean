def rmL_append : Room := { frames := 7, cells := 1, slots := 6, locals := 116 }
noncomputable def fL_append (a1 : Int) (a2 : Int) (a3 : Int) (a4 : Int) (a5 : Int) (μ : zM) : Option (Int × zM) :=
  zwr (fun v m => some (0, zsL m 339 0 v)) [xIS] (f5_append a1 a2 a3 a4 a5 μ)
def rmL_size : Room := { frames := 7, cells := 1, slots := 6, locals := 111 }
noncomputable def fL_size (a1 : Int) (μ : zM) : Option (Int × zM) :=
  zwr (fun v m => some (0, zsL m 339 0 v)) [xIA] (f5_size a1 μ)
def rmL_snippet : Room := { frames := 8, cells := 2, slots := 12, locals := 134 }
noncomputable def fL_snippet (a1 : Int) (a2 : Int) (μ : zM) : Option (Int × zM) :=
  zwr (fun v m => some (0, zsL m 339 0 v)) [xIO, xIA] (f5_snippet a1 a2 μ)
def rmL_letter : Room := { frames := 8, cells := 1, slots := 6, locals := 134 }
noncomputable def fL_letter (a1 : Int) (a2 : Int) (μ : zM) : Option (Int × zM) :=
  zwr (fun v m => some (0, zsL m 339 0 v)) [xIO] (f5_letter a1 a2 μ)
def rmL_depends : Room := { frames := 8, cells := 2, slots := 12, locals := 134 }
noncomputable def fL_depends (a1 : Int) (a2 : Int) (μ : zM) : Option (Int × zM) :=
  zwr (fun v m => some (0, zsL m 339 0 v)) [xIO] (f5_depends a1 a2 μ)
def rmL_document : Room := { frames := 7, cells := 1, slots := 6, locals := 111 }
noncomputable def fL_document (a1 : Int) (μ : zM) : Option (Int × zM) :=
  zwr (fun v m => some (0, zsL m 339 0 v)) [xIO] (f5_document a1 μ)
def rmL_session : Room := { frames := 7, cells := 1, slots := 6, locals := 150 }
noncomputable def fL_session (a1 : Int) (a2 : Int) (μ : zM) : Option (Int × zM) :=
  zwr (fun v m => some (0, zsL m 339 0 v)) [xIO, xIA] (f5_session a1 a2 μ)
def rmL_account : Room := { frames := 7, cells := 1, slots := 6, locals := 111 }
noncomputable def fL_account (a1 : Int) (μ : zM) : Option (Int × zM) :=
  zwr (fun v m => some (0, zsL m 339 0 v)) [xIA] (f5_account a1 μ)
def rmL_field : Room := { frames := 9, cells := 3, slots := 18, locals := 170 }
noncomputable def fL_field (a1 : Int) (a2 : Int) (μ : zM) : Option (Int × zM) :=
  zwr (fun v m => some (0, zsL m 339 0 v)) [xIO, xIA, xIS] (f5_field a1 a2 μ)
def rmL_value : Room := { frames := 9, cells := 2, slots := 12, locals := 170 }
noncomputable def fL_value (a1 : Int) (a2 : Int) (μ : zM) : Option (Int × zM) :=
  zwr (fun v m => some (0, zsL m 339 0 v)) [xIO, xIS] (f5_value a1 a2 μ)
def rmL_occurrence : Room := { frames := 9, cells := 2, slots := 12, locals := 171 }
noncomputable def fL_occurrence (a1 : Int) (a2 : Int) (μ : zM) : Option (Int × zM) :=
  zwr (fun v m => some (0, zsL m 339 0 v)) [xIS, xIO, xIA] (f5_occurrence a1 a2 μ)
def rmL_text : Room := { frames := 9, cells := 1, slots := 6, locals := 169 }
noncomputable def fL_text (a1 : Int) (μ : zM) : Option (Int × zM) :=
  zwr (fun v m => some (0, zsL m 339 0 v)) [xIS] (f5_text a1 μ)
def rmL_orderAt : Room := { frames := 9, cells := 1, slots := 6, locals := 169 }
noncomputable def fL_orderAt (a1 : Int) (μ : zM) : Option (Int × zM) :=
  zwr (fun v m => some (0, zsL m 339 0 v)) [xIS] (f5_orderAt a1 μ)
def rmL_why : Room := { frames := 9, cells := 2, slots := 12, locals := 169 }
noncomputable def fL_why (a1 : Int) (μ : zM) : Option (Int × zM) :=
  zwr (fun v m => some (0, zsL m 339 0 v)) [xIO, xIS] (f5_why a1 μ)
def rmL_yielded : Room := { frames := 9, cells := 1, slots := 6, locals := 168 }
noncomputable def fL_yielded (μ : zM) : Option (Int × zM) :=
  zwr (fun v m => some (0, zsL m 339 0 v)) [xIS] (f5_yielded μ)
def rmL_mirrored : Room := { frames := 9, cells := 1, slots := 6, locals := 168 }
noncomputable def fL_mirrored (μ : zM) : Option (Int × zM) :=
  zwr (fun v m => some (0, zsL m 339 0 v)) [xIS] (f5_mirrored μ)
def rmL_longest : Room := { frames := 9, cells := 1, slots := 6, locals := 168 }
noncomputable def fL_longest (μ : zM) : Option (Int × zM) :=
  zwr (fun v m => some (0, zsL m 339 0 v)) [xIS] (f5_longest μ)
def rmL_untouched : Room := { frames := 9, cells := 1, slots := 6, locals := 170 }
noncomputable def fL_untouched (μ : zM) : Option (Int × zM) :=
  zwr (fun v m => zgd (vf_n64 (FP.f2d v)) (some (0, zsD m 340 0 (FP.f2d v)))) [xIS] (f5_untouched μ)
def rmL_meanLength : Room := { frames := 9, cells := 1, slots := 6, locals := 169 }
noncomputable def fL_meanLength (μ : zM) : Option (Int × zM) :=
  zwr (fun v m => some (0, zsD m 340 0 v)) [xIS] (f5_meanLength μ)
def rmL_lengthIf : Room := { frames := 8, cells := 2, slots := 12, locals := 156 }
noncomputable def fL_lengthIf (a1 : Int) (μ : zM) : Option (Int × zM) :=
  zwr (fun v m => some (0, zsL m 339 0 v)) [xIA, xIS] (f5_lengthIf a1 μ)
def rmL_wouldHide : Room := { frames := 9, cells := 2, slots := 12, locals := 170 }
noncomputable def fL_wouldHide (a1 : Int) (μ : zM) : Option (Int × zM) :=
  zwr (fun v m => some (0, zsL m 339 0 v)) [xIO, xIS] (f5_wouldHide a1 μ)
def rmL_lengthOf : Room := { frames := 8, cells := 1, slots := 6, locals := 132 }
noncomputable def fL_lengthOf (a1 : Int) (μ : zM) : Option (Int × zM) :=
  zwr (fun v m => some (0, zsL m 339 0 v)) [xIO] (f5_lengthOf a1 μ)
def rmL_expand : Room := { frames := 8, cells := 1, slots := 6, locals := 181 }
noncomputable def fL_expand (a1 : Int) (μ : zM) : Option (Int × zM) :=
  zwr (fun v m => some (0, zsL m 339 0 v)) [xIO] (f5_expand a1 μ)
def rmL_type : Room := { frames := 8, cells := 2, slots := 12, locals := 176 }
noncomputable def fL_type (a1 : Int) (μ : zM) : Option (Int × zM) :=
  zwr (fun v m => some (0, zsL m 339 0 v)) [xIA, xNS] (f5_type a1 μ)
def rmL_go : Room := { frames := 8, cells := 1, slots := 6, locals := 151 }
noncomputable def fL_go (a1 : Int) (μ : zM) : Option (Int × zM) :=
  zwr (fun v m => some (0, zsL m 339 0 v)) [xIO] (f5_go a1 μ)
def rmL_undo : Room := { frames := 7, cells := 1, slots := 6, locals := 110 }
noncomputable def fL_undo (μ : zM) : Option (Int × zM) :=
  zwr (fun v m => some (0, zsL m 339 0 v)) [xIS] (f5_undo μ)
def rmL_save : Room := { frames := 8, cells := 1, slots := 6, locals := 131 }
noncomputable def fL_save (a1 : Int) (μ : zM) : Option (Int × zM) :=
  zwr (fun v m => some (0, zsL m 339 0 v)) [xIO] (f5_save a1 μ)
def rmL_restore : Room := { frames := 8, cells := 2, slots := 12, locals := 131 }
noncomputable def fL_restore (a1 : Int) (μ : zM) : Option (Int × zM) :=
  zwr (fun v m => some (0, zsL m 339 0 v)) [xIO, xIS] (f5_restore a1 μ)
theorem dL_append_0 : decode bL_append 0 = .ok (.aload 6, 2) := by decide +kernel
theorem dL_append_2 : decode bL_append 2 = .ok (.iconst 0, 1) := by decide +kernel
theorem dL_append_3 : decode bL_append 3 = .ok (.aload_n 0, 1) := by decide +kernel
theorem dL_append_4 : decode bL_append 4 = .ok (.iload_n 1, 1) := by decide +kernel
theorem dL_append_5 : decode bL_append 5 = .ok (.iload_n 2, 1) := by decide +kernel
theorem dL_append_6 : decode bL_append 6 = .ok (.iload_n 3, 1) := by decide +kernel
theorem dL_append_7 : decode bL_append 7 = .ok (.iload 4, 2) := by decide +kernel
theorem dL_append_9 : decode bL_append 9 = .ok (.iload 5, 2) := by decide +kernel
theorem dL_append_11 : decode bL_append 11 = .ok (.invokevirtual 7, 3) := by decide +kernel
theorem dL_append_14 : decode bL_append 14 = .ok (.i2l, 1) := by decide +kernel
theorem dL_append_15 : decode bL_append 15 = .ok (.lastore, 1) := by decide +kernel
theorem dL_append_16 : decode bL_append 16 = .ok (.goto 7, 3) := by decide +kernel
theorem dL_append_23 : decode bL_append 23 = .ok (.iconst 0, 1) := by decide +kernel
theorem dL_append_24 : decode bL_append 24 = .ok (.ireturn, 1) := by decide +kernel
theorem dL_append_19 : decode bL_append 19 = .ok (.astore 7, 2) := by decide +kernel
theorem dL_append_21 : decode bL_append 21 = .ok (.iconst 1, 1) := by decide +kernel
theorem dL_append_22 : decode bL_append 22 = .ok (.ireturn, 1) := by decide +kernel
theorem dL_size_0 : decode bL_size 0 = .ok (.aload_n 2, 1) := by decide +kernel
theorem dL_size_1 : decode bL_size 1 = .ok (.iconst 0, 1) := by decide +kernel
theorem dL_size_2 : decode bL_size 2 = .ok (.aload_n 0, 1) := by decide +kernel
theorem dL_size_3 : decode bL_size 3 = .ok (.iload_n 1, 1) := by decide +kernel
theorem dL_size_4 : decode bL_size 4 = .ok (.invokevirtual 15, 3) := by decide +kernel
theorem dL_size_7 : decode bL_size 7 = .ok (.i2l, 1) := by decide +kernel
theorem dL_size_8 : decode bL_size 8 = .ok (.lastore, 1) := by decide +kernel
theorem dL_size_9 : decode bL_size 9 = .ok (.goto 6, 3) := by decide +kernel
theorem dL_size_15 : decode bL_size 15 = .ok (.iconst 0, 1) := by decide +kernel
theorem dL_size_16 : decode bL_size 16 = .ok (.ireturn, 1) := by decide +kernel
theorem dL_size_12 : decode bL_size 12 = .ok (.astore_n 3, 1) := by decide +kernel
theorem dL_size_13 : decode bL_size 13 = .ok (.iconst 1, 1) := by decide +kernel
theorem dL_size_14 : decode bL_size 14 = .ok (.ireturn, 1) := by decide +kernel
theorem dL_snippet_0 : decode bL_snippet 0 = .ok (.aload_n 3, 1) := by decide +kernel
theorem dL_snippet_1 : decode bL_snippet 1 = .ok (.iconst 0, 1) := by decide +kernel
theorem dL_snippet_2 : decode bL_snippet 2 = .ok (.aload_n 0, 1) := by decide +kernel
theorem dL_snippet_3 : decode bL_snippet 3 = .ok (.iload_n 1, 1) := by decide +kernel
theorem dL_snippet_4 : decode bL_snippet 4 = .ok (.iload_n 2, 1) := by decide +kernel
theorem dL_snippet_5 : decode bL_snippet 5 = .ok (.invokevirtual 21, 3) := by decide +kernel
theorem dL_snippet_8 : decode bL_snippet 8 = .ok (.i2l, 1) := by decide +kernel
theorem dL_snippet_9 : decode bL_snippet 9 = .ok (.lastore, 1) := by decide +kernel
theorem dL_snippet_10 : decode bL_snippet 10 = .ok (.goto 11, 3) := by decide +kernel
theorem dL_snippet_21 : decode bL_snippet 21 = .ok (.iconst 0, 1) := by decide +kernel
theorem dL_snippet_22 : decode bL_snippet 22 = .ok (.ireturn, 1) := by decide +kernel
theorem dL_snippet_13 : decode bL_snippet 13 = .ok (.astore 4, 2) := by decide +kernel
theorem dL_snippet_15 : decode bL_snippet 15 = .ok (.iconst 1, 1) := by decide +kernel
theorem dL_snippet_16 : decode bL_snippet 16 = .ok (.ireturn, 1) := by decide +kernel
theorem dL_snippet_17 : decode bL_snippet 17 = .ok (.astore 4, 2) := by decide +kernel
theorem dL_snippet_19 : decode bL_snippet 19 = .ok (.iconst 2, 1) := by decide +kernel
theorem dL_snippet_20 : decode bL_snippet 20 = .ok (.ireturn, 1) := by decide +kernel
theorem dL_letter_0 : decode bL_letter 0 = .ok (.aload_n 3, 1) := by decide +kernel
theorem dL_letter_1 : decode bL_letter 1 = .ok (.iconst 0, 1) := by decide +kernel
theorem dL_letter_2 : decode bL_letter 2 = .ok (.aload_n 0, 1) := by decide +kernel
theorem dL_letter_3 : decode bL_letter 3 = .ok (.iload_n 1, 1) := by decide +kernel
theorem dL_letter_4 : decode bL_letter 4 = .ok (.iload_n 2, 1) := by decide +kernel
theorem dL_letter_5 : decode bL_letter 5 = .ok (.invokevirtual 27, 3) := by decide +kernel
theorem dL_letter_8 : decode bL_letter 8 = .ok (.i2l, 1) := by decide +kernel
theorem dL_letter_9 : decode bL_letter 9 = .ok (.lastore, 1) := by decide +kernel
theorem dL_letter_10 : decode bL_letter 10 = .ok (.goto 7, 3) := by decide +kernel
theorem dL_letter_17 : decode bL_letter 17 = .ok (.iconst 0, 1) := by decide +kernel
theorem dL_letter_18 : decode bL_letter 18 = .ok (.ireturn, 1) := by decide +kernel
theorem dL_letter_13 : decode bL_letter 13 = .ok (.astore 4, 2) := by decide +kernel
theorem dL_letter_15 : decode bL_letter 15 = .ok (.iconst 1, 1) := by decide +kernel
theorem dL_letter_16 : decode bL_letter 16 = .ok (.ireturn, 1) := by decide +kernel
theorem dL_depends_0 : decode bL_depends 0 = .ok (.aload_n 3, 1) := by decide +kernel
theorem dL_depends_1 : decode bL_depends 1 = .ok (.iconst 0, 1) := by decide +kernel
theorem dL_depends_2 : decode bL_depends 2 = .ok (.aload_n 0, 1) := by decide +kernel
theorem dL_depends_3 : decode bL_depends 3 = .ok (.iload_n 1, 1) := by decide +kernel
theorem dL_depends_4 : decode bL_depends 4 = .ok (.iload_n 2, 1) := by decide +kernel
theorem dL_depends_5 : decode bL_depends 5 = .ok (.invokevirtual 30, 3) := by decide +kernel
theorem dL_depends_8 : decode bL_depends 8 = .ok (.i2l, 1) := by decide +kernel
theorem dL_depends_9 : decode bL_depends 9 = .ok (.lastore, 1) := by decide +kernel
theorem dL_depends_10 : decode bL_depends 10 = .ok (.goto 7, 3) := by decide +kernel
theorem dL_depends_17 : decode bL_depends 17 = .ok (.iconst 0, 1) := by decide +kernel
theorem dL_depends_18 : decode bL_depends 18 = .ok (.ireturn, 1) := by decide +kernel
theorem dL_depends_13 : decode bL_depends 13 = .ok (.astore 4, 2) := by decide +kernel
theorem dL_depends_15 : decode bL_depends 15 = .ok (.iconst 1, 1) := by decide +kernel
theorem dL_depends_16 : decode bL_depends 16 = .ok (.ireturn, 1) := by decide +kernel
theorem dL_document_0 : decode bL_document 0 = .ok (.aload_n 2, 1) := by decide +kernel
theorem dL_document_1 : decode bL_document 1 = .ok (.iconst 0, 1) := by decide +kernel
theorem dL_document_2 : decode bL_document 2 = .ok (.aload_n 0, 1) := by decide +kernel
theorem dL_document_3 : decode bL_document 3 = .ok (.iload_n 1, 1) := by decide +kernel
theorem dL_document_4 : decode bL_document 4 = .ok (.invokevirtual 33, 3) := by decide +kernel
theorem dL_document_7 : decode bL_document 7 = .ok (.i2l, 1) := by decide +kernel
theorem dL_document_8 : decode bL_document 8 = .ok (.lastore, 1) := by decide +kernel
theorem dL_document_9 : decode bL_document 9 = .ok (.goto 6, 3) := by decide +kernel
theorem dL_document_15 : decode bL_document 15 = .ok (.iconst 0, 1) := by decide +kernel
theorem dL_document_16 : decode bL_document 16 = .ok (.ireturn, 1) := by decide +kernel
theorem dL_document_12 : decode bL_document 12 = .ok (.astore_n 3, 1) := by decide +kernel
theorem dL_document_13 : decode bL_document 13 = .ok (.iconst 1, 1) := by decide +kernel
theorem dL_document_14 : decode bL_document 14 = .ok (.ireturn, 1) := by decide +kernel
theorem dL_session_0 : decode bL_session 0 = .ok (.aload_n 3, 1) := by decide +kernel
theorem dL_session_1 : decode bL_session 1 = .ok (.iconst 0, 1) := by decide +kernel
theorem dL_session_2 : decode bL_session 2 = .ok (.aload_n 0, 1) := by decide +kernel
theorem dL_session_3 : decode bL_session 3 = .ok (.iload_n 1, 1) := by decide +kernel
theorem dL_session_4 : decode bL_session 4 = .ok (.iload_n 2, 1) := by decide +kernel
theorem dL_session_5 : decode bL_session 5 = .ok (.invokevirtual 36, 3) := by decide +kernel
theorem dL_session_8 : decode bL_session 8 = .ok (.i2l, 1) := by decide +kernel
theorem dL_session_9 : decode bL_session 9 = .ok (.lastore, 1) := by decide +kernel
theorem dL_session_10 : decode bL_session 10 = .ok (.goto 11, 3) := by decide +kernel
theorem dL_session_21 : decode bL_session 21 = .ok (.iconst 0, 1) := by decide +kernel
theorem dL_session_22 : decode bL_session 22 = .ok (.ireturn, 1) := by decide +kernel
theorem dL_session_13 : decode bL_session 13 = .ok (.astore 4, 2) := by decide +kernel
theorem dL_session_15 : decode bL_session 15 = .ok (.iconst 1, 1) := by decide +kernel
theorem dL_session_16 : decode bL_session 16 = .ok (.ireturn, 1) := by decide +kernel
theorem dL_session_17 : decode bL_session 17 = .ok (.astore 4, 2) := by decide +kernel
theorem dL_session_19 : decode bL_session 19 = .ok (.iconst 2, 1) := by decide +kernel
theorem dL_session_20 : decode bL_session 20 = .ok (.ireturn, 1) := by decide +kernel
theorem dL_account_0 : decode bL_account 0 = .ok (.aload_n 2, 1) := by decide +kernel
theorem dL_account_1 : decode bL_account 1 = .ok (.iconst 0, 1) := by decide +kernel
theorem dL_account_2 : decode bL_account 2 = .ok (.aload_n 0, 1) := by decide +kernel
theorem dL_account_3 : decode bL_account 3 = .ok (.iload_n 1, 1) := by decide +kernel
theorem dL_account_4 : decode bL_account 4 = .ok (.invokevirtual 39, 3) := by decide +kernel
theorem dL_account_7 : decode bL_account 7 = .ok (.i2l, 1) := by decide +kernel
theorem dL_account_8 : decode bL_account 8 = .ok (.lastore, 1) := by decide +kernel
theorem dL_account_9 : decode bL_account 9 = .ok (.goto 6, 3) := by decide +kernel
theorem dL_account_15 : decode bL_account 15 = .ok (.iconst 0, 1) := by decide +kernel
theorem dL_account_16 : decode bL_account 16 = .ok (.ireturn, 1) := by decide +kernel
theorem dL_account_12 : decode bL_account 12 = .ok (.astore_n 3, 1) := by decide +kernel
theorem dL_account_13 : decode bL_account 13 = .ok (.iconst 1, 1) := by decide +kernel
theorem dL_account_14 : decode bL_account 14 = .ok (.ireturn, 1) := by decide +kernel
theorem dL_field_0 : decode bL_field 0 = .ok (.aload_n 3, 1) := by decide +kernel
theorem dL_field_1 : decode bL_field 1 = .ok (.iconst 0, 1) := by decide +kernel
theorem dL_field_2 : decode bL_field 2 = .ok (.aload_n 0, 1) := by decide +kernel
theorem dL_field_3 : decode bL_field 3 = .ok (.iload_n 1, 1) := by decide +kernel
theorem dL_field_4 : decode bL_field 4 = .ok (.iload_n 2, 1) := by decide +kernel
theorem dL_field_5 : decode bL_field 5 = .ok (.invokevirtual 42, 3) := by decide +kernel
theorem dL_field_8 : decode bL_field 8 = .ok (.i2l, 1) := by decide +kernel
theorem dL_field_9 : decode bL_field 9 = .ok (.lastore, 1) := by decide +kernel
theorem dL_field_10 : decode bL_field 10 = .ok (.goto 15, 3) := by decide +kernel
theorem dL_field_25 : decode bL_field 25 = .ok (.iconst 0, 1) := by decide +kernel
theorem dL_field_26 : decode bL_field 26 = .ok (.ireturn, 1) := by decide +kernel
theorem dL_field_13 : decode bL_field 13 = .ok (.astore 4, 2) := by decide +kernel
theorem dL_field_15 : decode bL_field 15 = .ok (.iconst 1, 1) := by decide +kernel
theorem dL_field_16 : decode bL_field 16 = .ok (.ireturn, 1) := by decide +kernel
theorem dL_field_17 : decode bL_field 17 = .ok (.astore 4, 2) := by decide +kernel
theorem dL_field_19 : decode bL_field 19 = .ok (.iconst 2, 1) := by decide +kernel
theorem dL_field_20 : decode bL_field 20 = .ok (.ireturn, 1) := by decide +kernel
theorem dL_field_21 : decode bL_field 21 = .ok (.astore 4, 2) := by decide +kernel
theorem dL_field_23 : decode bL_field 23 = .ok (.iconst 3, 1) := by decide +kernel
theorem dL_field_24 : decode bL_field 24 = .ok (.ireturn, 1) := by decide +kernel
theorem dL_value_0 : decode bL_value 0 = .ok (.aload_n 3, 1) := by decide +kernel
theorem dL_value_1 : decode bL_value 1 = .ok (.iconst 0, 1) := by decide +kernel
theorem dL_value_2 : decode bL_value 2 = .ok (.aload_n 0, 1) := by decide +kernel
theorem dL_value_3 : decode bL_value 3 = .ok (.iload_n 1, 1) := by decide +kernel
theorem dL_value_4 : decode bL_value 4 = .ok (.iload_n 2, 1) := by decide +kernel
theorem dL_value_5 : decode bL_value 5 = .ok (.invokevirtual 45, 3) := by decide +kernel
theorem dL_value_8 : decode bL_value 8 = .ok (.i2l, 1) := by decide +kernel
theorem dL_value_9 : decode bL_value 9 = .ok (.lastore, 1) := by decide +kernel
theorem dL_value_10 : decode bL_value 10 = .ok (.goto 11, 3) := by decide +kernel
theorem dL_value_21 : decode bL_value 21 = .ok (.iconst 0, 1) := by decide +kernel
theorem dL_value_22 : decode bL_value 22 = .ok (.ireturn, 1) := by decide +kernel
theorem dL_value_13 : decode bL_value 13 = .ok (.astore 4, 2) := by decide +kernel
theorem dL_value_15 : decode bL_value 15 = .ok (.iconst 1, 1) := by decide +kernel
theorem dL_value_16 : decode bL_value 16 = .ok (.ireturn, 1) := by decide +kernel
theorem dL_value_17 : decode bL_value 17 = .ok (.astore 4, 2) := by decide +kernel
theorem dL_value_19 : decode bL_value 19 = .ok (.iconst 2, 1) := by decide +kernel
theorem dL_value_20 : decode bL_value 20 = .ok (.ireturn, 1) := by decide +kernel
theorem dL_occurrence_0 : decode bL_occurrence 0 = .ok (.aload_n 3, 1) := by decide +kernel
theorem dL_occurrence_1 : decode bL_occurrence 1 = .ok (.iconst 0, 1) := by decide +kernel
theorem dL_occurrence_2 : decode bL_occurrence 2 = .ok (.aload_n 0, 1) := by decide +kernel
theorem dL_occurrence_3 : decode bL_occurrence 3 = .ok (.iload_n 1, 1) := by decide +kernel
theorem dL_occurrence_4 : decode bL_occurrence 4 = .ok (.iload_n 2, 1) := by decide +kernel
theorem dL_occurrence_5 : decode bL_occurrence 5 = .ok (.invokevirtual 48, 3) := by decide +kernel
theorem dL_occurrence_8 : decode bL_occurrence 8 = .ok (.i2l, 1) := by decide +kernel
theorem dL_occurrence_9 : decode bL_occurrence 9 = .ok (.lastore, 1) := by decide +kernel
theorem dL_occurrence_10 : decode bL_occurrence 10 = .ok (.goto 15, 3) := by decide +kernel
theorem dL_occurrence_25 : decode bL_occurrence 25 = .ok (.iconst 0, 1) := by decide +kernel
theorem dL_occurrence_26 : decode bL_occurrence 26 = .ok (.ireturn, 1) := by decide +kernel
theorem dL_occurrence_13 : decode bL_occurrence 13 = .ok (.astore 4, 2) := by decide +kernel
theorem dL_occurrence_15 : decode bL_occurrence 15 = .ok (.iconst 1, 1) := by decide +kernel
theorem dL_occurrence_16 : decode bL_occurrence 16 = .ok (.ireturn, 1) := by decide +kernel
theorem dL_occurrence_17 : decode bL_occurrence 17 = .ok (.astore 4, 2) := by decide +kernel
theorem dL_occurrence_19 : decode bL_occurrence 19 = .ok (.iconst 2, 1) := by decide +kernel
theorem dL_occurrence_20 : decode bL_occurrence 20 = .ok (.ireturn, 1) := by decide +kernel
theorem dL_occurrence_21 : decode bL_occurrence 21 = .ok (.astore 4, 2) := by decide +kernel
theorem dL_occurrence_23 : decode bL_occurrence 23 = .ok (.iconst 3, 1) := by decide +kernel
theorem dL_occurrence_24 : decode bL_occurrence 24 = .ok (.ireturn, 1) := by decide +kernel
theorem dL_text_0 : decode bL_text 0 = .ok (.aload_n 2, 1) := by decide +kernel
theorem dL_text_1 : decode bL_text 1 = .ok (.iconst 0, 1) := by decide +kernel
theorem dL_text_2 : decode bL_text 2 = .ok (.aload_n 0, 1) := by decide +kernel
theorem dL_text_3 : decode bL_text 3 = .ok (.iload_n 1, 1) := by decide +kernel
theorem dL_text_4 : decode bL_text 4 = .ok (.invokevirtual 51, 3) := by decide +kernel
theorem dL_text_7 : decode bL_text 7 = .ok (.i2l, 1) := by decide +kernel
theorem dL_text_8 : decode bL_text 8 = .ok (.lastore, 1) := by decide +kernel
theorem dL_text_9 : decode bL_text 9 = .ok (.goto 6, 3) := by decide +kernel
theorem dL_text_15 : decode bL_text 15 = .ok (.iconst 0, 1) := by decide +kernel
theorem dL_text_16 : decode bL_text 16 = .ok (.ireturn, 1) := by decide +kernel
theorem dL_text_12 : decode bL_text 12 = .ok (.astore_n 3, 1) := by decide +kernel
theorem dL_text_13 : decode bL_text 13 = .ok (.iconst 1, 1) := by decide +kernel
theorem dL_text_14 : decode bL_text 14 = .ok (.ireturn, 1) := by decide +kernel
theorem dL_orderAt_0 : decode bL_orderAt 0 = .ok (.aload_n 2, 1) := by decide +kernel
theorem dL_orderAt_1 : decode bL_orderAt 1 = .ok (.iconst 0, 1) := by decide +kernel
theorem dL_orderAt_2 : decode bL_orderAt 2 = .ok (.aload_n 0, 1) := by decide +kernel
theorem dL_orderAt_3 : decode bL_orderAt 3 = .ok (.iload_n 1, 1) := by decide +kernel
theorem dL_orderAt_4 : decode bL_orderAt 4 = .ok (.invokevirtual 54, 3) := by decide +kernel
theorem dL_orderAt_7 : decode bL_orderAt 7 = .ok (.i2l, 1) := by decide +kernel
theorem dL_orderAt_8 : decode bL_orderAt 8 = .ok (.lastore, 1) := by decide +kernel
theorem dL_orderAt_9 : decode bL_orderAt 9 = .ok (.goto 6, 3) := by decide +kernel
theorem dL_orderAt_15 : decode bL_orderAt 15 = .ok (.iconst 0, 1) := by decide +kernel
theorem dL_orderAt_16 : decode bL_orderAt 16 = .ok (.ireturn, 1) := by decide +kernel
theorem dL_orderAt_12 : decode bL_orderAt 12 = .ok (.astore_n 3, 1) := by decide +kernel
theorem dL_orderAt_13 : decode bL_orderAt 13 = .ok (.iconst 1, 1) := by decide +kernel
theorem dL_orderAt_14 : decode bL_orderAt 14 = .ok (.ireturn, 1) := by decide +kernel
theorem dL_why_0 : decode bL_why 0 = .ok (.aload_n 2, 1) := by decide +kernel
theorem dL_why_1 : decode bL_why 1 = .ok (.iconst 0, 1) := by decide +kernel
theorem dL_why_2 : decode bL_why 2 = .ok (.aload_n 0, 1) := by decide +kernel
theorem dL_why_3 : decode bL_why 3 = .ok (.iload_n 1, 1) := by decide +kernel
theorem dL_why_4 : decode bL_why 4 = .ok (.invokevirtual 57, 3) := by decide +kernel
theorem dL_why_7 : decode bL_why 7 = .ok (.i2l, 1) := by decide +kernel
theorem dL_why_8 : decode bL_why 8 = .ok (.lastore, 1) := by decide +kernel
theorem dL_why_9 : decode bL_why 9 = .ok (.goto 9, 3) := by decide +kernel
theorem dL_why_18 : decode bL_why 18 = .ok (.iconst 0, 1) := by decide +kernel
theorem dL_why_19 : decode bL_why 19 = .ok (.ireturn, 1) := by decide +kernel
theorem dL_why_12 : decode bL_why 12 = .ok (.astore_n 3, 1) := by decide +kernel
theorem dL_why_13 : decode bL_why 13 = .ok (.iconst 1, 1) := by decide +kernel
theorem dL_why_14 : decode bL_why 14 = .ok (.ireturn, 1) := by decide +kernel
theorem dL_why_15 : decode bL_why 15 = .ok (.astore_n 3, 1) := by decide +kernel
theorem dL_why_16 : decode bL_why 16 = .ok (.iconst 2, 1) := by decide +kernel
theorem dL_why_17 : decode bL_why 17 = .ok (.ireturn, 1) := by decide +kernel
theorem dL_yielded_0 : decode bL_yielded 0 = .ok (.aload_n 1, 1) := by decide +kernel
theorem dL_yielded_1 : decode bL_yielded 1 = .ok (.iconst 0, 1) := by decide +kernel
theorem dL_yielded_2 : decode bL_yielded 2 = .ok (.aload_n 0, 1) := by decide +kernel
theorem dL_yielded_3 : decode bL_yielded 3 = .ok (.invokevirtual 60, 3) := by decide +kernel
theorem dL_yielded_6 : decode bL_yielded 6 = .ok (.i2l, 1) := by decide +kernel
theorem dL_yielded_7 : decode bL_yielded 7 = .ok (.lastore, 1) := by decide +kernel
theorem dL_yielded_8 : decode bL_yielded 8 = .ok (.goto 6, 3) := by decide +kernel
theorem dL_yielded_14 : decode bL_yielded 14 = .ok (.iconst 0, 1) := by decide +kernel
theorem dL_yielded_15 : decode bL_yielded 15 = .ok (.ireturn, 1) := by decide +kernel
theorem dL_yielded_11 : decode bL_yielded 11 = .ok (.astore_n 2, 1) := by decide +kernel
theorem dL_yielded_12 : decode bL_yielded 12 = .ok (.iconst 1, 1) := by decide +kernel
theorem dL_yielded_13 : decode bL_yielded 13 = .ok (.ireturn, 1) := by decide +kernel
theorem dL_mirrored_0 : decode bL_mirrored 0 = .ok (.aload_n 1, 1) := by decide +kernel
theorem dL_mirrored_1 : decode bL_mirrored 1 = .ok (.iconst 0, 1) := by decide +kernel
theorem dL_mirrored_2 : decode bL_mirrored 2 = .ok (.aload_n 0, 1) := by decide +kernel
theorem dL_mirrored_3 : decode bL_mirrored 3 = .ok (.invokevirtual 64, 3) := by decide +kernel
theorem dL_mirrored_6 : decode bL_mirrored 6 = .ok (.i2l, 1) := by decide +kernel
theorem dL_mirrored_7 : decode bL_mirrored 7 = .ok (.lastore, 1) := by decide +kernel
theorem dL_mirrored_8 : decode bL_mirrored 8 = .ok (.goto 6, 3) := by decide +kernel
theorem dL_mirrored_14 : decode bL_mirrored 14 = .ok (.iconst 0, 1) := by decide +kernel
theorem dL_mirrored_15 : decode bL_mirrored 15 = .ok (.ireturn, 1) := by decide +kernel
theorem dL_mirrored_11 : decode bL_mirrored 11 = .ok (.astore_n 2, 1) := by decide +kernel
theorem dL_mirrored_12 : decode bL_mirrored 12 = .ok (.iconst 1, 1) := by decide +kernel
theorem dL_mirrored_13 : decode bL_mirrored 13 = .ok (.ireturn, 1) := by decide +kernel
theorem dL_longest_0 : decode bL_longest 0 = .ok (.aload_n 1, 1) := by decide +kernel
theorem dL_longest_1 : decode bL_longest 1 = .ok (.iconst 0, 1) := by decide +kernel
theorem dL_longest_2 : decode bL_longest 2 = .ok (.aload_n 0, 1) := by decide +kernel
theorem dL_longest_3 : decode bL_longest 3 = .ok (.invokevirtual 67, 3) := by decide +kernel
theorem dL_longest_6 : decode bL_longest 6 = .ok (.i2l, 1) := by decide +kernel
theorem dL_longest_7 : decode bL_longest 7 = .ok (.lastore, 1) := by decide +kernel
theorem dL_longest_8 : decode bL_longest 8 = .ok (.goto 6, 3) := by decide +kernel
theorem dL_longest_14 : decode bL_longest 14 = .ok (.iconst 0, 1) := by decide +kernel
theorem dL_longest_15 : decode bL_longest 15 = .ok (.ireturn, 1) := by decide +kernel
theorem dL_longest_11 : decode bL_longest 11 = .ok (.astore_n 2, 1) := by decide +kernel
theorem dL_longest_12 : decode bL_longest 12 = .ok (.iconst 1, 1) := by decide +kernel
theorem dL_longest_13 : decode bL_longest 13 = .ok (.ireturn, 1) := by decide +kernel
theorem dL_untouched_0 : decode bL_untouched 0 = .ok (.aload_n 1, 1) := by decide +kernel
theorem dL_untouched_1 : decode bL_untouched 1 = .ok (.iconst 0, 1) := by decide +kernel
theorem dL_untouched_2 : decode bL_untouched 2 = .ok (.aload_n 0, 1) := by decide +kernel
theorem dL_untouched_3 : decode bL_untouched 3 = .ok (.invokevirtual 70, 3) := by decide +kernel
theorem dL_untouched_6 : decode bL_untouched 6 = .ok (.f2d, 1) := by decide +kernel
theorem dL_untouched_7 : decode bL_untouched 7 = .ok (.dastore, 1) := by decide +kernel
theorem dL_untouched_8 : decode bL_untouched 8 = .ok (.goto 6, 3) := by decide +kernel
theorem dL_untouched_14 : decode bL_untouched 14 = .ok (.iconst 0, 1) := by decide +kernel
theorem dL_untouched_15 : decode bL_untouched 15 = .ok (.ireturn, 1) := by decide +kernel
theorem dL_untouched_11 : decode bL_untouched 11 = .ok (.astore_n 2, 1) := by decide +kernel
theorem dL_untouched_12 : decode bL_untouched 12 = .ok (.iconst 1, 1) := by decide +kernel
theorem dL_untouched_13 : decode bL_untouched 13 = .ok (.ireturn, 1) := by decide +kernel
theorem dL_meanLength_0 : decode bL_meanLength 0 = .ok (.aload_n 1, 1) := by decide +kernel
theorem dL_meanLength_1 : decode bL_meanLength 1 = .ok (.iconst 0, 1) := by decide +kernel
theorem dL_meanLength_2 : decode bL_meanLength 2 = .ok (.aload_n 0, 1) := by decide +kernel
theorem dL_meanLength_3 : decode bL_meanLength 3 = .ok (.invokevirtual 74, 3) := by decide +kernel
theorem dL_meanLength_6 : decode bL_meanLength 6 = .ok (.dastore, 1) := by decide +kernel
theorem dL_meanLength_7 : decode bL_meanLength 7 = .ok (.goto 6, 3) := by decide +kernel
theorem dL_meanLength_13 : decode bL_meanLength 13 = .ok (.iconst 0, 1) := by decide +kernel
theorem dL_meanLength_14 : decode bL_meanLength 14 = .ok (.ireturn, 1) := by decide +kernel
theorem dL_meanLength_10 : decode bL_meanLength 10 = .ok (.astore_n 2, 1) := by decide +kernel
theorem dL_meanLength_11 : decode bL_meanLength 11 = .ok (.iconst 1, 1) := by decide +kernel
theorem dL_meanLength_12 : decode bL_meanLength 12 = .ok (.ireturn, 1) := by decide +kernel
theorem dL_lengthIf_0 : decode bL_lengthIf 0 = .ok (.aload_n 2, 1) := by decide +kernel
theorem dL_lengthIf_1 : decode bL_lengthIf 1 = .ok (.iconst 0, 1) := by decide +kernel
theorem dL_lengthIf_2 : decode bL_lengthIf 2 = .ok (.aload_n 0, 1) := by decide +kernel
theorem dL_lengthIf_3 : decode bL_lengthIf 3 = .ok (.iload_n 1, 1) := by decide +kernel
theorem dL_lengthIf_4 : decode bL_lengthIf 4 = .ok (.invokevirtual 78, 3) := by decide +kernel
theorem dL_lengthIf_7 : decode bL_lengthIf 7 = .ok (.i2l, 1) := by decide +kernel
theorem dL_lengthIf_8 : decode bL_lengthIf 8 = .ok (.lastore, 1) := by decide +kernel
theorem dL_lengthIf_9 : decode bL_lengthIf 9 = .ok (.goto 9, 3) := by decide +kernel
theorem dL_lengthIf_18 : decode bL_lengthIf 18 = .ok (.iconst 0, 1) := by decide +kernel
theorem dL_lengthIf_19 : decode bL_lengthIf 19 = .ok (.ireturn, 1) := by decide +kernel
theorem dL_lengthIf_12 : decode bL_lengthIf 12 = .ok (.astore_n 3, 1) := by decide +kernel
theorem dL_lengthIf_13 : decode bL_lengthIf 13 = .ok (.iconst 1, 1) := by decide +kernel
theorem dL_lengthIf_14 : decode bL_lengthIf 14 = .ok (.ireturn, 1) := by decide +kernel
theorem dL_lengthIf_15 : decode bL_lengthIf 15 = .ok (.astore_n 3, 1) := by decide +kernel
theorem dL_lengthIf_16 : decode bL_lengthIf 16 = .ok (.iconst 2, 1) := by decide +kernel
theorem dL_lengthIf_17 : decode bL_lengthIf 17 = .ok (.ireturn, 1) := by decide +kernel
theorem dL_wouldHide_0 : decode bL_wouldHide 0 = .ok (.aload_n 2, 1) := by decide +kernel
theorem dL_wouldHide_1 : decode bL_wouldHide 1 = .ok (.iconst 0, 1) := by decide +kernel
theorem dL_wouldHide_2 : decode bL_wouldHide 2 = .ok (.aload_n 0, 1) := by decide +kernel
theorem dL_wouldHide_3 : decode bL_wouldHide 3 = .ok (.iload_n 1, 1) := by decide +kernel
theorem dL_wouldHide_4 : decode bL_wouldHide 4 = .ok (.invokevirtual 81, 3) := by decide +kernel
theorem dL_wouldHide_7 : decode bL_wouldHide 7 = .ok (.i2l, 1) := by decide +kernel
theorem dL_wouldHide_8 : decode bL_wouldHide 8 = .ok (.lastore, 1) := by decide +kernel
theorem dL_wouldHide_9 : decode bL_wouldHide 9 = .ok (.goto 9, 3) := by decide +kernel
theorem dL_wouldHide_18 : decode bL_wouldHide 18 = .ok (.iconst 0, 1) := by decide +kernel
theorem dL_wouldHide_19 : decode bL_wouldHide 19 = .ok (.ireturn, 1) := by decide +kernel
theorem dL_wouldHide_12 : decode bL_wouldHide 12 = .ok (.astore_n 3, 1) := by decide +kernel
theorem dL_wouldHide_13 : decode bL_wouldHide 13 = .ok (.iconst 1, 1) := by decide +kernel
theorem dL_wouldHide_14 : decode bL_wouldHide 14 = .ok (.ireturn, 1) := by decide +kernel
theorem dL_wouldHide_15 : decode bL_wouldHide 15 = .ok (.astore_n 3, 1) := by decide +kernel
theorem dL_wouldHide_16 : decode bL_wouldHide 16 = .ok (.iconst 2, 1) := by decide +kernel
theorem dL_wouldHide_17 : decode bL_wouldHide 17 = .ok (.ireturn, 1) := by decide +kernel
theorem dL_lengthOf_0 : decode bL_lengthOf 0 = .ok (.aload_n 2, 1) := by decide +kernel
theorem dL_lengthOf_1 : decode bL_lengthOf 1 = .ok (.iconst 0, 1) := by decide +kernel
theorem dL_lengthOf_2 : decode bL_lengthOf 2 = .ok (.aload_n 0, 1) := by decide +kernel
theorem dL_lengthOf_3 : decode bL_lengthOf 3 = .ok (.iload_n 1, 1) := by decide +kernel
theorem dL_lengthOf_4 : decode bL_lengthOf 4 = .ok (.invokevirtual 84, 3) := by decide +kernel
theorem dL_lengthOf_7 : decode bL_lengthOf 7 = .ok (.i2l, 1) := by decide +kernel
theorem dL_lengthOf_8 : decode bL_lengthOf 8 = .ok (.lastore, 1) := by decide +kernel
theorem dL_lengthOf_9 : decode bL_lengthOf 9 = .ok (.goto 6, 3) := by decide +kernel
theorem dL_lengthOf_15 : decode bL_lengthOf 15 = .ok (.iconst 0, 1) := by decide +kernel
theorem dL_lengthOf_16 : decode bL_lengthOf 16 = .ok (.ireturn, 1) := by decide +kernel
theorem dL_lengthOf_12 : decode bL_lengthOf 12 = .ok (.astore_n 3, 1) := by decide +kernel
theorem dL_lengthOf_13 : decode bL_lengthOf 13 = .ok (.iconst 1, 1) := by decide +kernel
theorem dL_lengthOf_14 : decode bL_lengthOf 14 = .ok (.ireturn, 1) := by decide +kernel
theorem dL_expand_0 : decode bL_expand 0 = .ok (.aload_n 2, 1) := by decide +kernel
theorem dL_expand_1 : decode bL_expand 1 = .ok (.iconst 0, 1) := by decide +kernel
theorem dL_expand_2 : decode bL_expand 2 = .ok (.aload_n 0, 1) := by decide +kernel
theorem dL_expand_3 : decode bL_expand 3 = .ok (.iload_n 1, 1) := by decide +kernel
theorem dL_expand_4 : decode bL_expand 4 = .ok (.invokevirtual 87, 3) := by decide +kernel
theorem dL_expand_7 : decode bL_expand 7 = .ok (.i2l, 1) := by decide +kernel
theorem dL_expand_8 : decode bL_expand 8 = .ok (.lastore, 1) := by decide +kernel
theorem dL_expand_9 : decode bL_expand 9 = .ok (.goto 6, 3) := by decide +kernel
theorem dL_expand_15 : decode bL_expand 15 = .ok (.iconst 0, 1) := by decide +kernel
theorem dL_expand_16 : decode bL_expand 16 = .ok (.ireturn, 1) := by decide +kernel
theorem dL_expand_12 : decode bL_expand 12 = .ok (.astore_n 3, 1) := by decide +kernel
theorem dL_expand_13 : decode bL_expand 13 = .ok (.iconst 1, 1) := by decide +kernel
theorem dL_expand_14 : decode bL_expand 14 = .ok (.ireturn, 1) := by decide +kernel
theorem dL_type_0 : decode bL_type 0 = .ok (.aload_n 2, 1) := by decide +kernel
theorem dL_type_1 : decode bL_type 1 = .ok (.iconst 0, 1) := by decide +kernel
theorem dL_type_2 : decode bL_type 2 = .ok (.aload_n 0, 1) := by decide +kernel
theorem dL_type_3 : decode bL_type 3 = .ok (.iload_n 1, 1) := by decide +kernel
theorem dL_type_4 : decode bL_type 4 = .ok (.invokevirtual 90, 3) := by decide +kernel
theorem dL_type_7 : decode bL_type 7 = .ok (.i2l, 1) := by decide +kernel
theorem dL_type_8 : decode bL_type 8 = .ok (.lastore, 1) := by decide +kernel
theorem dL_type_9 : decode bL_type 9 = .ok (.goto 9, 3) := by decide +kernel
theorem dL_type_18 : decode bL_type 18 = .ok (.iconst 0, 1) := by decide +kernel
theorem dL_type_19 : decode bL_type 19 = .ok (.ireturn, 1) := by decide +kernel
theorem dL_type_12 : decode bL_type 12 = .ok (.astore_n 3, 1) := by decide +kernel
theorem dL_type_13 : decode bL_type 13 = .ok (.iconst 1, 1) := by decide +kernel
theorem dL_type_14 : decode bL_type 14 = .ok (.ireturn, 1) := by decide +kernel
theorem dL_type_15 : decode bL_type 15 = .ok (.astore_n 3, 1) := by decide +kernel
theorem dL_type_16 : decode bL_type 16 = .ok (.iconst 2, 1) := by decide +kernel
theorem dL_type_17 : decode bL_type 17 = .ok (.ireturn, 1) := by decide +kernel
theorem dL_go_0 : decode bL_go 0 = .ok (.aload_n 2, 1) := by decide +kernel
theorem dL_go_1 : decode bL_go 1 = .ok (.iconst 0, 1) := by decide +kernel
theorem dL_go_2 : decode bL_go 2 = .ok (.aload_n 0, 1) := by decide +kernel
theorem dL_go_3 : decode bL_go 3 = .ok (.iload_n 1, 1) := by decide +kernel
theorem dL_go_4 : decode bL_go 4 = .ok (.invokevirtual 95, 3) := by decide +kernel
theorem dL_go_7 : decode bL_go 7 = .ok (.i2l, 1) := by decide +kernel
theorem dL_go_8 : decode bL_go 8 = .ok (.lastore, 1) := by decide +kernel
theorem dL_go_9 : decode bL_go 9 = .ok (.goto 6, 3) := by decide +kernel
theorem dL_go_15 : decode bL_go 15 = .ok (.iconst 0, 1) := by decide +kernel
theorem dL_go_16 : decode bL_go 16 = .ok (.ireturn, 1) := by decide +kernel
theorem dL_go_12 : decode bL_go 12 = .ok (.astore_n 3, 1) := by decide +kernel
theorem dL_go_13 : decode bL_go 13 = .ok (.iconst 1, 1) := by decide +kernel
theorem dL_go_14 : decode bL_go 14 = .ok (.ireturn, 1) := by decide +kernel
theorem dL_undo_0 : decode bL_undo 0 = .ok (.aload_n 1, 1) := by decide +kernel
theorem dL_undo_1 : decode bL_undo 1 = .ok (.iconst 0, 1) := by decide +kernel
theorem dL_undo_2 : decode bL_undo 2 = .ok (.aload_n 0, 1) := by decide +kernel
theorem dL_undo_3 : decode bL_undo 3 = .ok (.invokevirtual 98, 3) := by decide +kernel
theorem dL_undo_6 : decode bL_undo 6 = .ok (.i2l, 1) := by decide +kernel
theorem dL_undo_7 : decode bL_undo 7 = .ok (.lastore, 1) := by decide +kernel
theorem dL_undo_8 : decode bL_undo 8 = .ok (.goto 6, 3) := by decide +kernel
theorem dL_undo_14 : decode bL_undo 14 = .ok (.iconst 0, 1) := by decide +kernel
theorem dL_undo_15 : decode bL_undo 15 = .ok (.ireturn, 1) := by decide +kernel
theorem dL_undo_11 : decode bL_undo 11 = .ok (.astore_n 2, 1) := by decide +kernel
theorem dL_undo_12 : decode bL_undo 12 = .ok (.iconst 1, 1) := by decide +kernel
theorem dL_undo_13 : decode bL_undo 13 = .ok (.ireturn, 1) := by decide +kernel
theorem dL_save_0 : decode bL_save 0 = .ok (.aload_n 2, 1) := by decide +kernel
theorem dL_save_1 : decode bL_save 1 = .ok (.iconst 0, 1) := by decide +kernel
theorem dL_save_2 : decode bL_save 2 = .ok (.aload_n 0, 1) := by decide +kernel
theorem dL_save_3 : decode bL_save 3 = .ok (.iload_n 1, 1) := by decide +kernel
theorem dL_save_4 : decode bL_save 4 = .ok (.invokevirtual 101, 3) := by decide +kernel
theorem dL_save_7 : decode bL_save 7 = .ok (.i2l, 1) := by decide +kernel
theorem dL_save_8 : decode bL_save 8 = .ok (.lastore, 1) := by decide +kernel
theorem dL_save_9 : decode bL_save 9 = .ok (.goto 6, 3) := by decide +kernel
theorem dL_save_15 : decode bL_save 15 = .ok (.iconst 0, 1) := by decide +kernel
theorem dL_save_16 : decode bL_save 16 = .ok (.ireturn, 1) := by decide +kernel
theorem dL_save_12 : decode bL_save 12 = .ok (.astore_n 3, 1) := by decide +kernel
theorem dL_save_13 : decode bL_save 13 = .ok (.iconst 1, 1) := by decide +kernel
theorem dL_save_14 : decode bL_save 14 = .ok (.ireturn, 1) := by decide +kernel
theorem dL_restore_0 : decode bL_restore 0 = .ok (.aload_n 2, 1) := by decide +kernel
theorem dL_restore_1 : decode bL_restore 1 = .ok (.iconst 0, 1) := by decide +kernel
theorem dL_restore_2 : decode bL_restore 2 = .ok (.aload_n 0, 1) := by decide +kernel
theorem dL_restore_3 : decode bL_restore 3 = .ok (.iload_n 1, 1) := by decide +kernel
theorem dL_restore_4 : decode bL_restore 4 = .ok (.invokevirtual 104, 3) := by decide +kernel
theorem dL_restore_7 : decode bL_restore 7 = .ok (.i2l, 1) := by decide +kernel
theorem dL_restore_8 : decode bL_restore 8 = .ok (.lastore, 1) := by decide +kernel
theorem dL_restore_9 : decode bL_restore 9 = .ok (.goto 9, 3) := by decide +kernel
theorem dL_restore_18 : decode bL_restore 18 = .ok (.iconst 0, 1) := by decide +kernel
theorem dL_restore_19 : decode bL_restore 19 = .ok (.ireturn, 1) := by decide +kernel
theorem dL_restore_12 : decode bL_restore 12 = .ok (.astore_n 3, 1) := by decide +kernel
theorem dL_restore_13 : decode bL_restore 13 = .ok (.iconst 1, 1) := by decide +kernel
theorem dL_restore_14 : decode bL_restore 14 = .ok (.ireturn, 1) := by decide +kernel
theorem dL_restore_15 : decode bL_restore 15 = .ok (.astore_n 3, 1) := by decide +kernel
theorem dL_restore_16 : decode bL_restore 16 = .ok (.iconst 2, 1) := by decide +kernel
theorem dL_restore_17 : decode bL_restore 17 = .ok (.ireturn, 1) := by decide +kernel
