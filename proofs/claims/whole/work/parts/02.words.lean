-- names: methods, their bytes; the words that all methods share; a row a word
abbrev y_g_init : MethodName := ⟨"SightGraph", "<init>", "()V"⟩
abbrev b_g_init : ByteArray := prog_1_method_1_code
abbrev y_l_begin : MethodName := ⟨"SightGraphLaw", "begin", "(LSightGraph;I)I"⟩
abbrev b_l_begin : ByteArray := method_3_code
abbrev y_g_begin : MethodName := ⟨"SightGraph", "begin", "(I)V"⟩
abbrev b_g_begin : ByteArray := prog_1_method_2_code
abbrev y_l_event : MethodName := ⟨"SightGraphLaw", "event", "(LSightGraph;III[J)I"⟩
abbrev b_l_event : ByteArray := method_4_code
abbrev y_g_event : MethodName := ⟨"SightGraph", "event", "(III)I"⟩
abbrev b_g_event : ByteArray := prog_1_method_3_code
abbrev y_g_requireNode : MethodName := ⟨"SightGraph", "requireNode", "(I)V"⟩
abbrev b_g_requireNode : ByteArray := prog_1_method_13_code
abbrev y_g_mayBeSelfParent : MethodName := ⟨"SightGraph", "mayBeSelfParent", "(II)Z"⟩
abbrev b_g_mayBeSelfParent : ByteArray := prog_1_method_16_code
abbrev y_g_isEvent : MethodName := ⟨"SightGraph", "isEvent", "(I)Z"⟩
abbrev b_g_isEvent : ByteArray := prog_1_method_15_code
abbrev y_g_mayBeOtherParent : MethodName := ⟨"SightGraph", "mayBeOtherParent", "(II)Z"⟩
abbrev b_g_mayBeOtherParent : ByteArray := prog_1_method_17_code
abbrev y_g_gatherAncestors : MethodName := ⟨"SightGraph", "gatherAncestors", "(III)V"⟩
abbrev b_g_gatherAncestors : ByteArray := prog_1_method_18_code
abbrev y_g_addAncestorsOf : MethodName := ⟨"SightGraph", "addAncestorsOf", "(II)V"⟩
abbrev b_g_addAncestorsOf : ByteArray := prog_1_method_19_code
abbrev y_g_forkersWithin : MethodName := ⟨"SightGraph", "forkersWithin", "(JJ)I"⟩
abbrev b_g_forkersWithin : ByteArray := prog_1_method_25_code
abbrev y_g_hasForkWithin : MethodName := ⟨"SightGraph", "hasForkWithin", "(JJI)Z"⟩
abbrev b_g_hasForkWithin : ByteArray := prog_1_method_26_code
abbrev y_g_isWithin : MethodName := ⟨"SightGraph", "isWithin", "(JJI)Z"⟩
abbrev b_g_isWithin : ByteArray := prog_1_method_21_code
abbrev y_g_roundFrom : MethodName := ⟨"SightGraph", "roundFrom", "(III)I"⟩
abbrev b_g_roundFrom : ByteArray := prog_1_method_30_code
abbrev y_g_roundOfParent : MethodName := ⟨"SightGraph", "roundOfParent", "(I)I"⟩
abbrev b_g_roundOfParent : ByteArray := prog_1_method_31_code
abbrev y_g_nodesWithWitnessFor : MethodName := ⟨"SightGraph", "nodesWithWitnessFor", "(II)I"⟩
abbrev b_g_nodesWithWitnessFor : ByteArray := prog_1_method_32_code
abbrev y_g_opensRound : MethodName := ⟨"SightGraph", "opensRound", "(I)Z"⟩
abbrev b_g_opensRound : ByteArray := prog_1_method_33_code
abbrev y_g_nodesBetween : MethodName := ⟨"SightGraph", "nodesBetween", "(II)I"⟩
abbrev b_g_nodesBetween : ByteArray := prog_1_method_28_code
abbrev y_g_hasSight : MethodName := ⟨"SightGraph", "hasSight", "(II)Z"⟩
abbrev b_g_hasSight : ByteArray := prog_1_method_27_code
abbrev y_g_hasAncestor : MethodName := ⟨"SightGraph", "hasAncestor", "(II)Z"⟩
abbrev b_g_hasAncestor : ByteArray := prog_1_method_20_code
abbrev y_g_hasBit : MethodName := ⟨"SightGraph", "hasBit", "(II)Z"⟩
abbrev b_g_hasBit : ByteArray := prog_1_method_22_code
abbrev y_j_bitCount : MethodName := ⟨"java/lang/Integer", "bitCount", "(I)I"⟩
abbrev b_j_bitCount : ByteArray := prog_7_method_49_code
abbrev y_g_isMany : MethodName := ⟨"SightGraph", "isMany", "(I)Z"⟩
abbrev b_g_isMany : ByteArray := prog_1_method_29_code
abbrev y_l_ancestor : MethodName := ⟨"SightGraphLaw", "ancestor", "(LSightGraph;II[J)I"⟩
abbrev b_l_ancestor : ByteArray := method_5_code
abbrev y_g_ancestor : MethodName := ⟨"SightGraph", "ancestor", "(II)Z"⟩
abbrev b_g_ancestor : ByteArray := prog_1_method_4_code
abbrev y_g_requireEvent : MethodName := ⟨"SightGraph", "requireEvent", "(I)V"⟩
abbrev b_g_requireEvent : ByteArray := prog_1_method_14_code
abbrev y_l_own : MethodName := ⟨"SightGraphLaw", "own", "(LSightGraph;II[J)I"⟩
abbrev b_l_own : ByteArray := method_6_code
abbrev y_g_own : MethodName := ⟨"SightGraph", "own", "(II)Z"⟩
abbrev b_g_own : ByteArray := prog_1_method_5_code
abbrev y_l_forked : MethodName := ⟨"SightGraphLaw", "forked", "(LSightGraph;II[J)I"⟩
abbrev b_l_forked : ByteArray := method_7_code
abbrev y_g_forked : MethodName := ⟨"SightGraph", "forked", "(II)Z"⟩
abbrev b_g_forked : ByteArray := prog_1_method_6_code
abbrev y_l_sees : MethodName := ⟨"SightGraphLaw", "sees", "(LSightGraph;II[J)I"⟩
abbrev b_l_sees : ByteArray := method_8_code
abbrev y_g_sees : MethodName := ⟨"SightGraph", "sees", "(II)Z"⟩
abbrev b_g_sees : ByteArray := prog_1_method_7_code
abbrev y_l_strength : MethodName := ⟨"SightGraphLaw", "strength", "(LSightGraph;II[J)I"⟩
abbrev b_l_strength : ByteArray := method_9_code
abbrev y_g_strength : MethodName := ⟨"SightGraph", "strength", "(II)I"⟩
abbrev b_g_strength : ByteArray := prog_1_method_8_code
abbrev y_l_strongly : MethodName := ⟨"SightGraphLaw", "strongly", "(LSightGraph;II[J)I"⟩
abbrev b_l_strongly : ByteArray := method_10_code
abbrev y_g_strongly : MethodName := ⟨"SightGraph", "strongly", "(II)Z"⟩
abbrev b_g_strongly : ByteArray := prog_1_method_9_code
abbrev y_l_round : MethodName := ⟨"SightGraphLaw", "round", "(LSightGraph;I[J)I"⟩
abbrev b_l_round : ByteArray := method_11_code
abbrev y_g_round : MethodName := ⟨"SightGraph", "round", "(I)I"⟩
abbrev b_g_round : ByteArray := prog_1_method_10_code
abbrev y_l_witness : MethodName := ⟨"SightGraphLaw", "witness", "(LSightGraph;I[J)I"⟩
abbrev b_l_witness : ByteArray := method_12_code
abbrev y_g_witness : MethodName := ⟨"SightGraph", "witness", "(I)Z"⟩
abbrev b_g_witness : ByteArray := prog_1_method_11_code
abbrev y_l_count : MethodName := ⟨"SightGraphLaw", "count", "(LSightGraph;I[J)I"⟩
abbrev b_l_count : ByteArray := method_13_code
abbrev y_g_count : MethodName := ⟨"SightGraph", "count", "(I)I"⟩
abbrev b_g_count : ByteArray := prog_1_method_12_code
abbrev y_g_forkersOfAll : MethodName := ⟨"SightGraph", "forkersOfAll", "()I"⟩
abbrev b_g_forkersOfAll : ByteArray := prog_1_method_24_code
abbrev y_g_lowestBits : MethodName := ⟨"SightGraph", "lowestBits", "(I)J"⟩
abbrev b_g_lowestBits : ByteArray := prog_1_method_23_code
abbrev y_g_greatestRound : MethodName := ⟨"SightGraph", "greatestRound", "()I"⟩
abbrev b_g_greatestRound : ByteArray := prog_1_method_34_code
abbrev y_r_init : MethodName := ⟨"SightGraphModel", "<init>", "()V"⟩
abbrev b_r_init : ByteArray := prog_3_method_1_code
abbrev y_r_thrown : MethodName := ⟨"SightGraphModel", "thrown", "()I"⟩
abbrev b_r_thrown : ByteArray := prog_3_method_2_code
abbrev y_r_begin : MethodName := ⟨"SightGraphModel", "begin", "(I)V"⟩
abbrev b_r_begin : ByteArray := prog_3_method_9_code
abbrev y_r_in : MethodName := ⟨"SightGraphModel", "in", "(JJJ)Z"⟩
abbrev b_r_in : ByteArray := prog_3_method_3_code
abbrev y_r_fails : MethodName := ⟨"SightGraphModel", "fails", "(ZI)Z"⟩
abbrev b_r_fails : ByteArray := prog_3_method_4_code
abbrev y_r_event : MethodName := ⟨"SightGraphModel", "event", "(III)I"⟩
abbrev b_r_event : ByteArray := prog_3_method_11_code
abbrev y_r_isEvent : MethodName := ⟨"SightGraphModel", "isEvent", "(I)Z"⟩
abbrev b_r_isEvent : ByteArray := prog_3_method_5_code
abbrev y_r_ways : MethodName := ⟨"SightGraphModel", "ways", "(I)V"⟩
abbrev b_r_ways : ByteArray := prog_3_method_10_code
abbrev y_r_isAbove : MethodName := ⟨"SightGraphModel", "isAbove", "(II)Z"⟩
abbrev b_r_isAbove : ByteArray := prog_3_method_6_code
abbrev y_r_isFork : MethodName := ⟨"SightGraphModel", "isFork", "(II)Z"⟩
abbrev b_r_isFork : ByteArray := prog_3_method_8_code
abbrev y_r_isOwn : MethodName := ⟨"SightGraphModel", "isOwn", "(II)Z"⟩
abbrev b_r_isOwn : ByteArray := prog_3_method_7_code
abbrev y_r_isWitness : MethodName := ⟨"SightGraphModel", "isWitness", "(I)Z"⟩
abbrev b_r_isWitness : ByteArray := prog_3_method_15_code
abbrev y_r_isStrong : MethodName := ⟨"SightGraphModel", "isStrong", "(II)Z"⟩
abbrev b_r_isStrong : ByteArray := prog_3_method_14_code
abbrev y_r_strengthOf : MethodName := ⟨"SightGraphModel", "strengthOf", "(II)I"⟩
abbrev b_r_strengthOf : ByteArray := prog_3_method_13_code
abbrev y_r_isSeen : MethodName := ⟨"SightGraphModel", "isSeen", "(II)Z"⟩
abbrev b_r_isSeen : ByteArray := prog_3_method_12_code
abbrev y_r_ancestor : MethodName := ⟨"SightGraphModel", "ancestor", "(II)Z"⟩
abbrev b_r_ancestor : ByteArray := prog_3_method_16_code
abbrev y_r_own : MethodName := ⟨"SightGraphModel", "own", "(II)Z"⟩
abbrev b_r_own : ByteArray := prog_3_method_17_code
abbrev y_r_forked : MethodName := ⟨"SightGraphModel", "forked", "(II)Z"⟩
abbrev b_r_forked : ByteArray := prog_3_method_18_code
abbrev y_r_sees : MethodName := ⟨"SightGraphModel", "sees", "(II)Z"⟩
abbrev b_r_sees : ByteArray := prog_3_method_19_code
abbrev y_r_strength : MethodName := ⟨"SightGraphModel", "strength", "(II)I"⟩
abbrev b_r_strength : ByteArray := prog_3_method_20_code
abbrev y_r_strongly : MethodName := ⟨"SightGraphModel", "strongly", "(II)Z"⟩
abbrev b_r_strongly : ByteArray := prog_3_method_21_code
abbrev y_r_round : MethodName := ⟨"SightGraphModel", "round", "(I)I"⟩
abbrev b_r_round : ByteArray := prog_3_method_22_code
abbrev y_r_witness : MethodName := ⟨"SightGraphModel", "witness", "(I)Z"⟩
abbrev b_r_witness : ByteArray := prog_3_method_23_code
abbrev y_r_count : MethodName := ⟨"SightGraphModel", "count", "(I)I"⟩
abbrev b_r_count : ByteArray := prog_3_method_24_code
theorem h_l_begin : y_l_begin.cls ≠ "java/lang/invoke/MethodHandle" ∧ y_l_begin.cls ≠ "java/lang/invoke/VarHandle" ∧ (parseMethodDescriptor y_l_begin.desc).map (fun d => d.parameters.length) = some 2 := by decide +kernel
theorem h_g_begin : y_g_begin.cls ≠ "java/lang/invoke/MethodHandle" ∧ y_g_begin.cls ≠ "java/lang/invoke/VarHandle" ∧ (parseMethodDescriptor y_g_begin.desc).map (fun d => d.parameters.length) = some 1 := by decide +kernel
theorem h_l_event : y_l_event.cls ≠ "java/lang/invoke/MethodHandle" ∧ y_l_event.cls ≠ "java/lang/invoke/VarHandle" ∧ (parseMethodDescriptor y_l_event.desc).map (fun d => d.parameters.length) = some 5 := by decide +kernel
theorem h_g_event : y_g_event.cls ≠ "java/lang/invoke/MethodHandle" ∧ y_g_event.cls ≠ "java/lang/invoke/VarHandle" ∧ (parseMethodDescriptor y_g_event.desc).map (fun d => d.parameters.length) = some 3 := by decide +kernel
theorem h_g_requireNode : y_g_requireNode.cls ≠ "java/lang/invoke/MethodHandle" ∧ y_g_requireNode.cls ≠ "java/lang/invoke/VarHandle" ∧ (parseMethodDescriptor y_g_requireNode.desc).map (fun d => d.parameters.length) = some 1 := by decide +kernel
theorem h_g_mayBeSelfParent : y_g_mayBeSelfParent.cls ≠ "java/lang/invoke/MethodHandle" ∧ y_g_mayBeSelfParent.cls ≠ "java/lang/invoke/VarHandle" ∧ (parseMethodDescriptor y_g_mayBeSelfParent.desc).map (fun d => d.parameters.length) = some 2 := by decide +kernel
theorem h_g_isEvent : y_g_isEvent.cls ≠ "java/lang/invoke/MethodHandle" ∧ y_g_isEvent.cls ≠ "java/lang/invoke/VarHandle" ∧ (parseMethodDescriptor y_g_isEvent.desc).map (fun d => d.parameters.length) = some 1 := by decide +kernel
theorem h_g_mayBeOtherParent : y_g_mayBeOtherParent.cls ≠ "java/lang/invoke/MethodHandle" ∧ y_g_mayBeOtherParent.cls ≠ "java/lang/invoke/VarHandle" ∧ (parseMethodDescriptor y_g_mayBeOtherParent.desc).map (fun d => d.parameters.length) = some 2 := by decide +kernel
theorem h_g_gatherAncestors : y_g_gatherAncestors.cls ≠ "java/lang/invoke/MethodHandle" ∧ y_g_gatherAncestors.cls ≠ "java/lang/invoke/VarHandle" ∧ (parseMethodDescriptor y_g_gatherAncestors.desc).map (fun d => d.parameters.length) = some 3 := by decide +kernel
theorem h_g_addAncestorsOf : y_g_addAncestorsOf.cls ≠ "java/lang/invoke/MethodHandle" ∧ y_g_addAncestorsOf.cls ≠ "java/lang/invoke/VarHandle" ∧ (parseMethodDescriptor y_g_addAncestorsOf.desc).map (fun d => d.parameters.length) = some 2 := by decide +kernel
theorem h_g_forkersWithin : y_g_forkersWithin.cls ≠ "java/lang/invoke/MethodHandle" ∧ y_g_forkersWithin.cls ≠ "java/lang/invoke/VarHandle" ∧ (parseMethodDescriptor y_g_forkersWithin.desc).map (fun d => d.parameters.length) = some 2 := by decide +kernel
theorem h_g_hasForkWithin : y_g_hasForkWithin.cls ≠ "java/lang/invoke/MethodHandle" ∧ y_g_hasForkWithin.cls ≠ "java/lang/invoke/VarHandle" ∧ (parseMethodDescriptor y_g_hasForkWithin.desc).map (fun d => d.parameters.length) = some 3 := by decide +kernel
theorem h_g_isWithin : y_g_isWithin.cls ≠ "java/lang/invoke/MethodHandle" ∧ y_g_isWithin.cls ≠ "java/lang/invoke/VarHandle" ∧ (parseMethodDescriptor y_g_isWithin.desc).map (fun d => d.parameters.length) = some 3 := by decide +kernel
theorem h_g_roundFrom : y_g_roundFrom.cls ≠ "java/lang/invoke/MethodHandle" ∧ y_g_roundFrom.cls ≠ "java/lang/invoke/VarHandle" ∧ (parseMethodDescriptor y_g_roundFrom.desc).map (fun d => d.parameters.length) = some 3 := by decide +kernel
theorem h_g_roundOfParent : y_g_roundOfParent.cls ≠ "java/lang/invoke/MethodHandle" ∧ y_g_roundOfParent.cls ≠ "java/lang/invoke/VarHandle" ∧ (parseMethodDescriptor y_g_roundOfParent.desc).map (fun d => d.parameters.length) = some 1 := by decide +kernel
theorem h_g_nodesWithWitnessFor : y_g_nodesWithWitnessFor.cls ≠ "java/lang/invoke/MethodHandle" ∧ y_g_nodesWithWitnessFor.cls ≠ "java/lang/invoke/VarHandle" ∧ (parseMethodDescriptor y_g_nodesWithWitnessFor.desc).map (fun d => d.parameters.length) = some 2 := by decide +kernel
theorem h_g_opensRound : y_g_opensRound.cls ≠ "java/lang/invoke/MethodHandle" ∧ y_g_opensRound.cls ≠ "java/lang/invoke/VarHandle" ∧ (parseMethodDescriptor y_g_opensRound.desc).map (fun d => d.parameters.length) = some 1 := by decide +kernel
theorem h_g_nodesBetween : y_g_nodesBetween.cls ≠ "java/lang/invoke/MethodHandle" ∧ y_g_nodesBetween.cls ≠ "java/lang/invoke/VarHandle" ∧ (parseMethodDescriptor y_g_nodesBetween.desc).map (fun d => d.parameters.length) = some 2 := by decide +kernel
theorem h_g_hasSight : y_g_hasSight.cls ≠ "java/lang/invoke/MethodHandle" ∧ y_g_hasSight.cls ≠ "java/lang/invoke/VarHandle" ∧ (parseMethodDescriptor y_g_hasSight.desc).map (fun d => d.parameters.length) = some 2 := by decide +kernel
theorem h_g_hasAncestor : y_g_hasAncestor.cls ≠ "java/lang/invoke/MethodHandle" ∧ y_g_hasAncestor.cls ≠ "java/lang/invoke/VarHandle" ∧ (parseMethodDescriptor y_g_hasAncestor.desc).map (fun d => d.parameters.length) = some 2 := by decide +kernel
theorem h_g_hasBit : y_g_hasBit.cls ≠ "java/lang/invoke/MethodHandle" ∧ y_g_hasBit.cls ≠ "java/lang/invoke/VarHandle" ∧ (parseMethodDescriptor y_g_hasBit.desc).map (fun d => d.parameters.length) = some 2 := by decide +kernel
theorem h_j_bitCount : y_j_bitCount.cls ≠ "java/lang/invoke/MethodHandle" ∧ y_j_bitCount.cls ≠ "java/lang/invoke/VarHandle" ∧ (parseMethodDescriptor y_j_bitCount.desc).map (fun d => d.parameters.length) = some 1 := by decide +kernel
theorem h_g_isMany : y_g_isMany.cls ≠ "java/lang/invoke/MethodHandle" ∧ y_g_isMany.cls ≠ "java/lang/invoke/VarHandle" ∧ (parseMethodDescriptor y_g_isMany.desc).map (fun d => d.parameters.length) = some 1 := by decide +kernel
theorem h_l_ancestor : y_l_ancestor.cls ≠ "java/lang/invoke/MethodHandle" ∧ y_l_ancestor.cls ≠ "java/lang/invoke/VarHandle" ∧ (parseMethodDescriptor y_l_ancestor.desc).map (fun d => d.parameters.length) = some 4 := by decide +kernel
theorem h_g_ancestor : y_g_ancestor.cls ≠ "java/lang/invoke/MethodHandle" ∧ y_g_ancestor.cls ≠ "java/lang/invoke/VarHandle" ∧ (parseMethodDescriptor y_g_ancestor.desc).map (fun d => d.parameters.length) = some 2 := by decide +kernel
theorem h_g_requireEvent : y_g_requireEvent.cls ≠ "java/lang/invoke/MethodHandle" ∧ y_g_requireEvent.cls ≠ "java/lang/invoke/VarHandle" ∧ (parseMethodDescriptor y_g_requireEvent.desc).map (fun d => d.parameters.length) = some 1 := by decide +kernel
theorem h_l_own : y_l_own.cls ≠ "java/lang/invoke/MethodHandle" ∧ y_l_own.cls ≠ "java/lang/invoke/VarHandle" ∧ (parseMethodDescriptor y_l_own.desc).map (fun d => d.parameters.length) = some 4 := by decide +kernel
theorem h_g_own : y_g_own.cls ≠ "java/lang/invoke/MethodHandle" ∧ y_g_own.cls ≠ "java/lang/invoke/VarHandle" ∧ (parseMethodDescriptor y_g_own.desc).map (fun d => d.parameters.length) = some 2 := by decide +kernel
theorem h_l_forked : y_l_forked.cls ≠ "java/lang/invoke/MethodHandle" ∧ y_l_forked.cls ≠ "java/lang/invoke/VarHandle" ∧ (parseMethodDescriptor y_l_forked.desc).map (fun d => d.parameters.length) = some 4 := by decide +kernel
theorem h_g_forked : y_g_forked.cls ≠ "java/lang/invoke/MethodHandle" ∧ y_g_forked.cls ≠ "java/lang/invoke/VarHandle" ∧ (parseMethodDescriptor y_g_forked.desc).map (fun d => d.parameters.length) = some 2 := by decide +kernel
theorem h_l_sees : y_l_sees.cls ≠ "java/lang/invoke/MethodHandle" ∧ y_l_sees.cls ≠ "java/lang/invoke/VarHandle" ∧ (parseMethodDescriptor y_l_sees.desc).map (fun d => d.parameters.length) = some 4 := by decide +kernel
theorem h_g_sees : y_g_sees.cls ≠ "java/lang/invoke/MethodHandle" ∧ y_g_sees.cls ≠ "java/lang/invoke/VarHandle" ∧ (parseMethodDescriptor y_g_sees.desc).map (fun d => d.parameters.length) = some 2 := by decide +kernel
theorem h_l_strength : y_l_strength.cls ≠ "java/lang/invoke/MethodHandle" ∧ y_l_strength.cls ≠ "java/lang/invoke/VarHandle" ∧ (parseMethodDescriptor y_l_strength.desc).map (fun d => d.parameters.length) = some 4 := by decide +kernel
theorem h_g_strength : y_g_strength.cls ≠ "java/lang/invoke/MethodHandle" ∧ y_g_strength.cls ≠ "java/lang/invoke/VarHandle" ∧ (parseMethodDescriptor y_g_strength.desc).map (fun d => d.parameters.length) = some 2 := by decide +kernel
theorem h_l_strongly : y_l_strongly.cls ≠ "java/lang/invoke/MethodHandle" ∧ y_l_strongly.cls ≠ "java/lang/invoke/VarHandle" ∧ (parseMethodDescriptor y_l_strongly.desc).map (fun d => d.parameters.length) = some 4 := by decide +kernel
theorem h_g_strongly : y_g_strongly.cls ≠ "java/lang/invoke/MethodHandle" ∧ y_g_strongly.cls ≠ "java/lang/invoke/VarHandle" ∧ (parseMethodDescriptor y_g_strongly.desc).map (fun d => d.parameters.length) = some 2 := by decide +kernel
theorem h_l_round : y_l_round.cls ≠ "java/lang/invoke/MethodHandle" ∧ y_l_round.cls ≠ "java/lang/invoke/VarHandle" ∧ (parseMethodDescriptor y_l_round.desc).map (fun d => d.parameters.length) = some 3 := by decide +kernel
theorem h_g_round : y_g_round.cls ≠ "java/lang/invoke/MethodHandle" ∧ y_g_round.cls ≠ "java/lang/invoke/VarHandle" ∧ (parseMethodDescriptor y_g_round.desc).map (fun d => d.parameters.length) = some 1 := by decide +kernel
theorem h_l_witness : y_l_witness.cls ≠ "java/lang/invoke/MethodHandle" ∧ y_l_witness.cls ≠ "java/lang/invoke/VarHandle" ∧ (parseMethodDescriptor y_l_witness.desc).map (fun d => d.parameters.length) = some 3 := by decide +kernel
theorem h_g_witness : y_g_witness.cls ≠ "java/lang/invoke/MethodHandle" ∧ y_g_witness.cls ≠ "java/lang/invoke/VarHandle" ∧ (parseMethodDescriptor y_g_witness.desc).map (fun d => d.parameters.length) = some 1 := by decide +kernel
theorem h_l_count : y_l_count.cls ≠ "java/lang/invoke/MethodHandle" ∧ y_l_count.cls ≠ "java/lang/invoke/VarHandle" ∧ (parseMethodDescriptor y_l_count.desc).map (fun d => d.parameters.length) = some 3 := by decide +kernel
theorem h_g_count : y_g_count.cls ≠ "java/lang/invoke/MethodHandle" ∧ y_g_count.cls ≠ "java/lang/invoke/VarHandle" ∧ (parseMethodDescriptor y_g_count.desc).map (fun d => d.parameters.length) = some 1 := by decide +kernel
theorem h_g_forkersOfAll : y_g_forkersOfAll.cls ≠ "java/lang/invoke/MethodHandle" ∧ y_g_forkersOfAll.cls ≠ "java/lang/invoke/VarHandle" ∧ (parseMethodDescriptor y_g_forkersOfAll.desc).map (fun d => d.parameters.length) = some 0 := by decide +kernel
theorem h_g_lowestBits : y_g_lowestBits.cls ≠ "java/lang/invoke/MethodHandle" ∧ y_g_lowestBits.cls ≠ "java/lang/invoke/VarHandle" ∧ (parseMethodDescriptor y_g_lowestBits.desc).map (fun d => d.parameters.length) = some 1 := by decide +kernel
theorem h_g_greatestRound : y_g_greatestRound.cls ≠ "java/lang/invoke/MethodHandle" ∧ y_g_greatestRound.cls ≠ "java/lang/invoke/VarHandle" ∧ (parseMethodDescriptor y_g_greatestRound.desc).map (fun d => d.parameters.length) = some 0 := by decide +kernel
theorem h_r_thrown : y_r_thrown.cls ≠ "java/lang/invoke/MethodHandle" ∧ y_r_thrown.cls ≠ "java/lang/invoke/VarHandle" ∧ (parseMethodDescriptor y_r_thrown.desc).map (fun d => d.parameters.length) = some 0 := by decide +kernel
theorem h_r_begin : y_r_begin.cls ≠ "java/lang/invoke/MethodHandle" ∧ y_r_begin.cls ≠ "java/lang/invoke/VarHandle" ∧ (parseMethodDescriptor y_r_begin.desc).map (fun d => d.parameters.length) = some 1 := by decide +kernel
theorem h_r_in : y_r_in.cls ≠ "java/lang/invoke/MethodHandle" ∧ y_r_in.cls ≠ "java/lang/invoke/VarHandle" ∧ (parseMethodDescriptor y_r_in.desc).map (fun d => d.parameters.length) = some 3 := by decide +kernel
theorem h_r_fails : y_r_fails.cls ≠ "java/lang/invoke/MethodHandle" ∧ y_r_fails.cls ≠ "java/lang/invoke/VarHandle" ∧ (parseMethodDescriptor y_r_fails.desc).map (fun d => d.parameters.length) = some 2 := by decide +kernel
theorem h_r_event : y_r_event.cls ≠ "java/lang/invoke/MethodHandle" ∧ y_r_event.cls ≠ "java/lang/invoke/VarHandle" ∧ (parseMethodDescriptor y_r_event.desc).map (fun d => d.parameters.length) = some 3 := by decide +kernel
theorem h_r_isEvent : y_r_isEvent.cls ≠ "java/lang/invoke/MethodHandle" ∧ y_r_isEvent.cls ≠ "java/lang/invoke/VarHandle" ∧ (parseMethodDescriptor y_r_isEvent.desc).map (fun d => d.parameters.length) = some 1 := by decide +kernel
theorem h_r_ways : y_r_ways.cls ≠ "java/lang/invoke/MethodHandle" ∧ y_r_ways.cls ≠ "java/lang/invoke/VarHandle" ∧ (parseMethodDescriptor y_r_ways.desc).map (fun d => d.parameters.length) = some 1 := by decide +kernel
theorem h_r_isAbove : y_r_isAbove.cls ≠ "java/lang/invoke/MethodHandle" ∧ y_r_isAbove.cls ≠ "java/lang/invoke/VarHandle" ∧ (parseMethodDescriptor y_r_isAbove.desc).map (fun d => d.parameters.length) = some 2 := by decide +kernel
theorem h_r_isFork : y_r_isFork.cls ≠ "java/lang/invoke/MethodHandle" ∧ y_r_isFork.cls ≠ "java/lang/invoke/VarHandle" ∧ (parseMethodDescriptor y_r_isFork.desc).map (fun d => d.parameters.length) = some 2 := by decide +kernel
theorem h_r_isOwn : y_r_isOwn.cls ≠ "java/lang/invoke/MethodHandle" ∧ y_r_isOwn.cls ≠ "java/lang/invoke/VarHandle" ∧ (parseMethodDescriptor y_r_isOwn.desc).map (fun d => d.parameters.length) = some 2 := by decide +kernel
theorem h_r_isWitness : y_r_isWitness.cls ≠ "java/lang/invoke/MethodHandle" ∧ y_r_isWitness.cls ≠ "java/lang/invoke/VarHandle" ∧ (parseMethodDescriptor y_r_isWitness.desc).map (fun d => d.parameters.length) = some 1 := by decide +kernel
theorem h_r_isStrong : y_r_isStrong.cls ≠ "java/lang/invoke/MethodHandle" ∧ y_r_isStrong.cls ≠ "java/lang/invoke/VarHandle" ∧ (parseMethodDescriptor y_r_isStrong.desc).map (fun d => d.parameters.length) = some 2 := by decide +kernel
theorem h_r_strengthOf : y_r_strengthOf.cls ≠ "java/lang/invoke/MethodHandle" ∧ y_r_strengthOf.cls ≠ "java/lang/invoke/VarHandle" ∧ (parseMethodDescriptor y_r_strengthOf.desc).map (fun d => d.parameters.length) = some 2 := by decide +kernel
theorem h_r_isSeen : y_r_isSeen.cls ≠ "java/lang/invoke/MethodHandle" ∧ y_r_isSeen.cls ≠ "java/lang/invoke/VarHandle" ∧ (parseMethodDescriptor y_r_isSeen.desc).map (fun d => d.parameters.length) = some 2 := by decide +kernel
theorem h_r_ancestor : y_r_ancestor.cls ≠ "java/lang/invoke/MethodHandle" ∧ y_r_ancestor.cls ≠ "java/lang/invoke/VarHandle" ∧ (parseMethodDescriptor y_r_ancestor.desc).map (fun d => d.parameters.length) = some 2 := by decide +kernel
theorem h_r_own : y_r_own.cls ≠ "java/lang/invoke/MethodHandle" ∧ y_r_own.cls ≠ "java/lang/invoke/VarHandle" ∧ (parseMethodDescriptor y_r_own.desc).map (fun d => d.parameters.length) = some 2 := by decide +kernel
theorem h_r_forked : y_r_forked.cls ≠ "java/lang/invoke/MethodHandle" ∧ y_r_forked.cls ≠ "java/lang/invoke/VarHandle" ∧ (parseMethodDescriptor y_r_forked.desc).map (fun d => d.parameters.length) = some 2 := by decide +kernel
theorem h_r_sees : y_r_sees.cls ≠ "java/lang/invoke/MethodHandle" ∧ y_r_sees.cls ≠ "java/lang/invoke/VarHandle" ∧ (parseMethodDescriptor y_r_sees.desc).map (fun d => d.parameters.length) = some 2 := by decide +kernel
theorem h_r_strength : y_r_strength.cls ≠ "java/lang/invoke/MethodHandle" ∧ y_r_strength.cls ≠ "java/lang/invoke/VarHandle" ∧ (parseMethodDescriptor y_r_strength.desc).map (fun d => d.parameters.length) = some 2 := by decide +kernel
theorem h_r_strongly : y_r_strongly.cls ≠ "java/lang/invoke/MethodHandle" ∧ y_r_strongly.cls ≠ "java/lang/invoke/VarHandle" ∧ (parseMethodDescriptor y_r_strongly.desc).map (fun d => d.parameters.length) = some 2 := by decide +kernel
theorem h_r_round : y_r_round.cls ≠ "java/lang/invoke/MethodHandle" ∧ y_r_round.cls ≠ "java/lang/invoke/VarHandle" ∧ (parseMethodDescriptor y_r_round.desc).map (fun d => d.parameters.length) = some 1 := by decide +kernel
theorem h_r_witness : y_r_witness.cls ≠ "java/lang/invoke/MethodHandle" ∧ y_r_witness.cls ≠ "java/lang/invoke/VarHandle" ∧ (parseMethodDescriptor y_r_witness.desc).map (fun d => d.parameters.length) = some 1 := by decide +kernel
theorem h_r_count : y_r_count.cls ≠ "java/lang/invoke/MethodHandle" ∧ y_r_count.cls ≠ "java/lang/invoke/VarHandle" ∧ (parseMethodDescriptor y_r_count.desc).map (fun d => d.parameters.length) = some 1 := by decide +kernel
def Cw : List Cond := lw_tbl.filter goodWord
theorem cw_1 {w : Cond} (i : Nat) (h : tables_1_1[i]? = some w) (hg : goodWord w = true) : w ∈ Cw := List.mem_filter.mpr ⟨List.mem_append_right _ (List.mem_append_left _ (List.mem_of_getElem? h)), hg⟩
theorem cw_2 {w : Cond} (i : Nat) (h : tables_1_2[i]? = some w) (hg : goodWord w = true) : w ∈ Cw := List.mem_filter.mpr ⟨List.mem_append_right _ (List.mem_append_right _ (List.mem_of_getElem? h)), hg⟩
theorem cw_s {w : Cond} (i : Nat) (h : (k2_sels lw_privs)[i]? = some w) (hg : goodWord w = true) : w ∈ Cw := List.mem_filter.mpr ⟨List.mem_append_left _ (List.mem_of_getElem? h), hg⟩
theorem k_1_0 : (Cond.initialized "SightGraphLaw") ∈ Cw := cw_1 0 rfl rfl
theorem k_1_1 : (Cond.initialized "SightGraph") ∈ Cw := cw_1 1 rfl rfl
theorem k_1_2 : (Cond.initialized "SightGraphModel") ∈ Cw := cw_1 2 rfl rfl
theorem k_1_3 : (Cond.initialized "java/lang/Throwable") ∈ Cw := cw_1 3 rfl rfl
theorem k_1_4 : (Cond.initialized "java/lang/Exception") ∈ Cw := cw_1 4 rfl rfl
theorem k_1_5 : (Cond.initialized "java/lang/RuntimeException") ∈ Cw := cw_1 5 rfl rfl
theorem k_1_6 : (Cond.initialized "java/lang/IllegalArgumentException") ∈ Cw := cw_1 6 rfl rfl
theorem k_1_7 : (Cond.initialized "java/lang/IndexOutOfBoundsException") ∈ Cw := cw_1 7 rfl rfl
theorem k_1_8 : (Cond.initialized "java/lang/Math") ∈ Cw := cw_1 8 rfl rfl
theorem k_1_9 : (Cond.initialized "java/lang/Integer") ∈ Cw := cw_1 9 rfl rfl
theorem k_1_10 : (Cond.classLink "SightGraphLaw" 8 "SightGraph") ∈ Cw := cw_1 10 rfl rfl
theorem k_1_11 : (Cond.instantiable "SightGraph" 8) ∈ Cw := cw_1 11 rfl rfl
theorem k_1_12 : (Cond.methodLink "SightGraphLaw" 52 y_g_init) ∈ Cw := cw_1 12 rfl rfl
theorem k_1_13 : (Cond.instanceMethod y_g_init) ∈ Cw := cw_1 13 rfl rfl
theorem k_1_14 : (Cond.code y_g_init b_g_init 1 none) ∈ Cw := cw_1 14 rfl rfl
theorem k_1_15 : (Cond.methodLink "SightGraph" 1 objectInit) ∈ Cw := cw_1 15 rfl rfl
theorem k_1_16 : (Cond.instanceMethod objectInit) ∈ Cw := cw_1 16 rfl rfl
theorem k_1_17 : (Cond.code objectInit ⟨#[0xb1]⟩ 1 none) ∈ Cw := cw_1 17 rfl rfl
theorem k_1_18 : (Cond.fieldLink "SightGraph" 9 "SightGraph" "nodes" "I") ∈ Cw := cw_1 18 rfl rfl
theorem k_1_19 : (Cond.fieldLink "SightGraph" 13 "SightGraph" "events" "I") ∈ Cw := cw_1 19 rfl rfl
theorem k_1_20 : (Cond.fieldLink "SightGraph" 16 "SightGraph" "creators" "[I") ∈ Cw := cw_1 20 rfl rfl
theorem k_1_21 : (Cond.fieldLink "SightGraph" 20 "SightGraph" "selfParents" "[I") ∈ Cw := cw_1 21 rfl rfl
theorem k_1_22 : (Cond.fieldLink "SightGraph" 23 "SightGraph" "rounds" "[I") ∈ Cw := cw_1 22 rfl rfl
theorem k_1_23 : (Cond.fieldLink "SightGraph" 26 "SightGraph" "forkers" "[I") ∈ Cw := cw_1 23 rfl rfl
theorem k_1_24 : (Cond.fieldLink "SightGraph" 29 "SightGraph" "lowAncestors" "[J") ∈ Cw := cw_1 24 rfl rfl
theorem k_1_25 : (Cond.fieldLink "SightGraph" 33 "SightGraph" "highAncestors" "[J") ∈ Cw := cw_1 25 rfl rfl
theorem k_1_26 : (Cond.lays "SightGraph" "SightGraph" "nodes" "I") ∈ Cw := cw_1 26 rfl rfl
theorem k_1_28 : (Cond.lays "SightGraph" "SightGraph" "events" "I") ∈ Cw := cw_1 28 rfl rfl
theorem k_1_30 : (Cond.laysFinal "SightGraph" "SightGraph" "creators" "[I") ∈ Cw := cw_1 30 rfl rfl
theorem k_1_32 : (Cond.laysFinal "SightGraph" "SightGraph" "selfParents" "[I") ∈ Cw := cw_1 32 rfl rfl
theorem k_1_34 : (Cond.laysFinal "SightGraph" "SightGraph" "rounds" "[I") ∈ Cw := cw_1 34 rfl rfl
theorem k_1_36 : (Cond.laysFinal "SightGraph" "SightGraph" "forkers" "[I") ∈ Cw := cw_1 36 rfl rfl
theorem k_1_38 : (Cond.laysFinal "SightGraph" "SightGraph" "lowAncestors" "[J") ∈ Cw := cw_1 38 rfl rfl
theorem k_1_40 : (Cond.laysFinal "SightGraph" "SightGraph" "highAncestors" "[J") ∈ Cw := cw_1 40 rfl rfl
theorem k_1_43 : (Cond.arrayClass .int) ∈ Cw := cw_1 43 rfl rfl
theorem k_1_44 : (Cond.arrayClass .long) ∈ Cw := cw_1 44 rfl rfl
theorem k_1_45 : (Cond.methodLink "SightGraphLaw" 56 y_l_begin) ∈ Cw := cw_1 45 rfl rfl
theorem k_1_46 : (Cond.static y_l_begin) ∈ Cw := cw_1 46 rfl rfl
theorem k_1_47 : (Cond.codeWith y_l_begin b_l_begin 3 (some .int) [(0, 5, 8, 13)]) ∈ Cw := cw_1 47 rfl rfl
theorem k_1_48 : (Cond.classLink "SightGraphLaw" 13 "java/lang/IllegalArgumentException") ∈ Cw := cw_1 48 rfl rfl
theorem k_1_49 : (Cond.methodLink "SightGraphLaw" 7 y_g_begin) ∈ Cw := cw_1 49 rfl rfl
theorem k_1_50 : (Cond.instanceMethod y_g_begin) ∈ Cw := cw_1 50 rfl rfl
theorem k_1_51 : (Cond.selects "SightGraph" y_g_begin y_g_begin) ∈ Cw := cw_1 51 rfl rfl
theorem k_1_52 : (Cond.code y_g_begin b_g_begin 2 none) ∈ Cw := cw_1 52 rfl rfl
theorem k_1_53 : (Cond.classLink "SightGraph" 36 "java/lang/IllegalArgumentException") ∈ Cw := cw_1 53 rfl rfl
theorem k_1_54 : (Cond.instantiable "java/lang/IllegalArgumentException" 6) ∈ Cw := cw_1 54 rfl rfl
theorem k_1_62 : (Cond.selects "java/lang/IllegalArgumentException" (⟨"java/lang/Throwable", "fillInStackTrace", "(I)Ljava/lang/Throwable;"⟩ : MethodName) (⟨"java/lang/Throwable", "fillInStackTrace", "(I)Ljava/lang/Throwable;"⟩ : MethodName)) ∈ Cw := cw_1 62 rfl rfl
theorem k_1_63 : (Cond.selects "java/lang/IllegalArgumentException" (⟨"java/lang/Throwable", "fillInStackTrace", "()Ljava/lang/Throwable;"⟩ : MethodName) (⟨"java/lang/Throwable", "fillInStackTrace", "()Ljava/lang/Throwable;"⟩ : MethodName)) ∈ Cw := cw_1 63 rfl rfl
theorem k_1_64 : (Cond.lays "java/lang/IllegalArgumentException" "java/lang/Throwable" "cause" "Ljava/lang/Throwable;") ∈ Cw := cw_1 64 rfl rfl
theorem k_1_65 : (Cond.lays "java/lang/Throwable" "java/lang/Throwable" "cause" "Ljava/lang/Throwable;") ∈ Cw := cw_1 65 rfl rfl
theorem k_1_66 : (Cond.lays "java/lang/IllegalArgumentException" "java/lang/Throwable" "stackTrace" "[Ljava/lang/StackTraceElement;") ∈ Cw := cw_1 66 rfl rfl
theorem k_1_67 : (Cond.lays "java/lang/Throwable" "java/lang/Throwable" "stackTrace" "[Ljava/lang/StackTraceElement;") ∈ Cw := cw_1 67 rfl rfl
theorem k_1_68 : (Cond.lays "java/lang/IllegalArgumentException" "java/lang/Throwable" "suppressedExceptions" "Ljava/util/List;") ∈ Cw := cw_1 68 rfl rfl
theorem k_1_69 : (Cond.lays "java/lang/Throwable" "java/lang/Throwable" "suppressedExceptions" "Ljava/util/List;") ∈ Cw := cw_1 69 rfl rfl
theorem k_1_70 : (Cond.lays "java/lang/IllegalArgumentException" "java/lang/Throwable" "detailMessage" "Ljava/lang/String;") ∈ Cw := cw_1 70 rfl rfl
theorem k_1_71 : (Cond.lays "java/lang/Throwable" "java/lang/Throwable" "detailMessage" "Ljava/lang/String;") ∈ Cw := cw_1 71 rfl rfl
theorem k_1_72 : (Cond.lays "java/lang/IllegalArgumentException" "java/lang/Throwable" "backtrace" "Ljava/lang/Object;") ∈ Cw := cw_1 72 rfl rfl
theorem k_1_73 : (Cond.lays "java/lang/Throwable" "java/lang/Throwable" "backtrace" "Ljava/lang/Object;") ∈ Cw := cw_1 73 rfl rfl
theorem k_1_74 : (Cond.fieldLink "java/lang/Throwable" 198 "java/lang/Throwable" "backtrace" "Ljava/lang/Object;") ∈ Cw := cw_1 74 rfl rfl
theorem k_1_76 : (Cond.instanceMethod (⟨"java/lang/Throwable", "<init>", "()V"⟩ : MethodName)) ∈ Cw := cw_1 76 rfl rfl
theorem k_1_77 : (Cond.code (⟨"java/lang/Throwable", "<init>", "()V"⟩ : MethodName) prog_11_method_1_code 1 none) ∈ Cw := cw_1 77 rfl rfl
theorem k_1_78 : (Cond.methodLink "java/lang/Throwable" 1 objectInit) ∈ Cw := cw_1 78 rfl rfl
theorem k_1_79 : (Cond.fieldLink "java/lang/Throwable" 13 "java/lang/Throwable" "UNASSIGNED_STACK" "[Ljava/lang/StackTraceElement;") ∈ Cw := cw_1 79 rfl rfl
theorem k_1_81 : (Cond.fieldLink "java/lang/Throwable" 20 "java/lang/Throwable" "SUPPRESSED_SENTINEL" "Ljava/util/List;") ∈ Cw := cw_1 81 rfl rfl
theorem k_1_83 : (Cond.methodLink "java/lang/Throwable" 27 (⟨"java/lang/Throwable", "fillInStackTrace", "()Ljava/lang/Throwable;"⟩ : MethodName)) ∈ Cw := cw_1 83 rfl rfl
theorem k_1_84 : (Cond.instanceMethod (⟨"java/lang/Throwable", "fillInStackTrace", "()Ljava/lang/Throwable;"⟩ : MethodName)) ∈ Cw := cw_1 84 rfl rfl
theorem k_1_86 : (Cond.selects "java/lang/IndexOutOfBoundsException" (⟨"java/lang/Throwable", "fillInStackTrace", "()Ljava/lang/Throwable;"⟩ : MethodName) (⟨"java/lang/Throwable", "fillInStackTrace", "()Ljava/lang/Throwable;"⟩ : MethodName)) ∈ Cw := cw_1 86 rfl rfl
theorem k_1_87 : (Cond.codeSync (⟨"java/lang/Throwable", "fillInStackTrace", "()Ljava/lang/Throwable;"⟩ : MethodName) prog_11_method_18_code 1 (some (.object "java/lang/Throwable"))) ∈ Cw := cw_1 87 rfl rfl
theorem k_1_88 : (Cond.methodLink "java/lang/Throwable" 202 (⟨"java/lang/Throwable", "fillInStackTrace", "(I)Ljava/lang/Throwable;"⟩ : MethodName)) ∈ Cw := cw_1 88 rfl rfl
theorem k_1_90 : (Cond.instanceMethod (⟨"java/lang/Throwable", "fillInStackTrace", "(I)Ljava/lang/Throwable;"⟩ : MethodName)) ∈ Cw := cw_1 90 rfl rfl
theorem k_1_91 : (Cond.instantiable "java/lang/Throwable" 6) ∈ Cw := cw_1 91 rfl rfl
theorem k_1_94 : (Cond.methodLink "SightGraph" 40 (⟨"java/lang/IllegalArgumentException", "<init>", "(Ljava/lang/String;)V"⟩ : MethodName)) ∈ Cw := cw_1 94 rfl rfl
theorem k_1_95 : (Cond.instanceMethod (⟨"java/lang/IllegalArgumentException", "<init>", "(Ljava/lang/String;)V"⟩ : MethodName)) ∈ Cw := cw_1 95 rfl rfl
theorem k_1_96 : (Cond.code (⟨"java/lang/IllegalArgumentException", "<init>", "(Ljava/lang/String;)V"⟩ : MethodName) prog_5_method_2_code 2 none) ∈ Cw := cw_1 96 rfl rfl
theorem k_1_97 : (Cond.methodLink "java/lang/IllegalArgumentException" 7 (⟨"java/lang/RuntimeException", "<init>", "(Ljava/lang/String;)V"⟩ : MethodName)) ∈ Cw := cw_1 97 rfl rfl
theorem k_1_98 : (Cond.instanceMethod (⟨"java/lang/RuntimeException", "<init>", "(Ljava/lang/String;)V"⟩ : MethodName)) ∈ Cw := cw_1 98 rfl rfl
theorem k_1_99 : (Cond.code (⟨"java/lang/RuntimeException", "<init>", "(Ljava/lang/String;)V"⟩ : MethodName) prog_9_method_2_code 2 none) ∈ Cw := cw_1 99 rfl rfl
theorem k_1_100 : (Cond.methodLink "java/lang/RuntimeException" 7 (⟨"java/lang/Exception", "<init>", "(Ljava/lang/String;)V"⟩ : MethodName)) ∈ Cw := cw_1 100 rfl rfl
theorem k_1_101 : (Cond.instanceMethod (⟨"java/lang/Exception", "<init>", "(Ljava/lang/String;)V"⟩ : MethodName)) ∈ Cw := cw_1 101 rfl rfl
theorem k_1_102 : (Cond.code (⟨"java/lang/Exception", "<init>", "(Ljava/lang/String;)V"⟩ : MethodName) prog_4_method_2_code 2 none) ∈ Cw := cw_1 102 rfl rfl
theorem k_1_103 : (Cond.methodLink "java/lang/Exception" 7 (⟨"java/lang/Throwable", "<init>", "(Ljava/lang/String;)V"⟩ : MethodName)) ∈ Cw := cw_1 103 rfl rfl
theorem k_1_104 : (Cond.instanceMethod (⟨"java/lang/Throwable", "<init>", "(Ljava/lang/String;)V"⟩ : MethodName)) ∈ Cw := cw_1 104 rfl rfl
theorem k_1_105 : (Cond.code (⟨"java/lang/Throwable", "<init>", "(Ljava/lang/String;)V"⟩ : MethodName) prog_11_method_2_code 2 none) ∈ Cw := cw_1 105 rfl rfl
theorem k_1_107 : (Cond.fieldLink "java/lang/Throwable" 31 "java/lang/Throwable" "detailMessage" "Ljava/lang/String;") ∈ Cw := cw_1 107 rfl rfl
theorem k_1_108 : (Cond.fieldLink "java/lang/Throwable" 7 "java/lang/Throwable" "cause" "Ljava/lang/Throwable;") ∈ Cw := cw_1 108 rfl rfl
theorem k_1_109 : (Cond.fieldLink "java/lang/Throwable" 17 "java/lang/Throwable" "stackTrace" "[Ljava/lang/StackTraceElement;") ∈ Cw := cw_1 109 rfl rfl
theorem k_1_110 : (Cond.fieldLink "java/lang/Throwable" 24 "java/lang/Throwable" "suppressedExceptions" "Ljava/util/List;") ∈ Cw := cw_1 110 rfl rfl
theorem k_1_115 : (Cond.lays "java/lang/IllegalArgumentException" "java/lang/Throwable" "depth" "I") ∈ Cw := cw_1 115 rfl rfl
theorem k_1_119 : (Cond.arrayClass .byte) ∈ Cw := cw_1 119 rfl rfl
theorem k_1_120 : (Cond.methodLink "SightGraphLaw" 66 y_l_event) ∈ Cw := cw_1 120 rfl rfl
theorem k_1_121 : (Cond.static y_l_event) ∈ Cw := cw_1 121 rfl rfl
theorem k_1_122 : (Cond.codeWith y_l_event b_l_event 6 (some .int) [(0, 12, 15, 13), (0, 12, 19, 19)]) ∈ Cw := cw_1 122 rfl rfl
theorem k_1_123 : (Cond.classLink "SightGraphLaw" 19 "java/lang/IndexOutOfBoundsException") ∈ Cw := cw_1 123 rfl rfl
theorem k_1_124 : (Cond.methodLink "SightGraphLaw" 15 y_g_event) ∈ Cw := cw_1 124 rfl rfl
theorem k_1_125 : (Cond.instanceMethod y_g_event) ∈ Cw := cw_1 125 rfl rfl
theorem k_1_126 : (Cond.selects "SightGraph" y_g_event y_g_event) ∈ Cw := cw_1 126 rfl rfl
theorem k_1_127 : (Cond.code y_g_event b_g_event 5 (some .int)) ∈ Cw := cw_1 127 rfl rfl
theorem k_1_128 : (Cond.methodLink "SightGraph" 43 y_g_requireNode) ∈ Cw := cw_1 128 rfl rfl
theorem k_1_130 : (Cond.instanceMethod y_g_requireNode) ∈ Cw := cw_1 130 rfl rfl
theorem k_1_131 : (Cond.code y_g_requireNode b_g_requireNode 2 none) ∈ Cw := cw_1 131 rfl rfl
theorem k_1_133 : (Cond.methodLink "SightGraph" 47 y_g_mayBeSelfParent) ∈ Cw := cw_1 133 rfl rfl
theorem k_1_135 : (Cond.instanceMethod y_g_mayBeSelfParent) ∈ Cw := cw_1 135 rfl rfl
theorem k_1_136 : (Cond.code y_g_mayBeSelfParent b_g_mayBeSelfParent 3 (some .boolean)) ∈ Cw := cw_1 136 rfl rfl
theorem k_1_137 : (Cond.methodLink "SightGraph" 115 y_g_isEvent) ∈ Cw := cw_1 137 rfl rfl
theorem k_1_139 : (Cond.instanceMethod y_g_isEvent) ∈ Cw := cw_1 139 rfl rfl
theorem k_1_140 : (Cond.code y_g_isEvent b_g_isEvent 2 (some .boolean)) ∈ Cw := cw_1 140 rfl rfl
theorem k_1_142 : (Cond.methodLink "SightGraph" 53 y_g_mayBeOtherParent) ∈ Cw := cw_1 142 rfl rfl
theorem k_1_144 : (Cond.instanceMethod y_g_mayBeOtherParent) ∈ Cw := cw_1 144 rfl rfl
theorem k_1_145 : (Cond.code y_g_mayBeOtherParent b_g_mayBeOtherParent 3 (some .boolean)) ∈ Cw := cw_1 145 rfl rfl
theorem k_1_147 : (Cond.classLink "SightGraph" 58 "java/lang/IndexOutOfBoundsException") ∈ Cw := cw_1 147 rfl rfl
theorem k_1_148 : (Cond.instantiable "java/lang/IndexOutOfBoundsException" 6) ∈ Cw := cw_1 148 rfl rfl
theorem k_1_150 : (Cond.selects "java/lang/IndexOutOfBoundsException" (⟨"java/lang/Throwable", "fillInStackTrace", "(I)Ljava/lang/Throwable;"⟩ : MethodName) (⟨"java/lang/Throwable", "fillInStackTrace", "(I)Ljava/lang/Throwable;"⟩ : MethodName)) ∈ Cw := cw_1 150 rfl rfl
theorem k_1_151 : (Cond.lays "java/lang/IndexOutOfBoundsException" "java/lang/Throwable" "cause" "Ljava/lang/Throwable;") ∈ Cw := cw_1 151 rfl rfl
theorem k_1_152 : (Cond.lays "java/lang/IndexOutOfBoundsException" "java/lang/Throwable" "stackTrace" "[Ljava/lang/StackTraceElement;") ∈ Cw := cw_1 152 rfl rfl
theorem k_1_153 : (Cond.lays "java/lang/IndexOutOfBoundsException" "java/lang/Throwable" "suppressedExceptions" "Ljava/util/List;") ∈ Cw := cw_1 153 rfl rfl
theorem k_1_154 : (Cond.lays "java/lang/IndexOutOfBoundsException" "java/lang/Throwable" "detailMessage" "Ljava/lang/String;") ∈ Cw := cw_1 154 rfl rfl
theorem k_1_155 : (Cond.lays "java/lang/IndexOutOfBoundsException" "java/lang/Throwable" "backtrace" "Ljava/lang/Object;") ∈ Cw := cw_1 155 rfl rfl
theorem k_1_157 : (Cond.methodLink "SightGraph" 62 (⟨"java/lang/IndexOutOfBoundsException", "<init>", "(Ljava/lang/String;)V"⟩ : MethodName)) ∈ Cw := cw_1 157 rfl rfl
theorem k_1_158 : (Cond.instanceMethod (⟨"java/lang/IndexOutOfBoundsException", "<init>", "(Ljava/lang/String;)V"⟩ : MethodName)) ∈ Cw := cw_1 158 rfl rfl
theorem k_1_159 : (Cond.code (⟨"java/lang/IndexOutOfBoundsException", "<init>", "(Ljava/lang/String;)V"⟩ : MethodName) prog_6_method_2_code 2 none) ∈ Cw := cw_1 159 rfl rfl
theorem k_1_160 : (Cond.methodLink "java/lang/IndexOutOfBoundsException" 7 (⟨"java/lang/RuntimeException", "<init>", "(Ljava/lang/String;)V"⟩ : MethodName)) ∈ Cw := cw_1 160 rfl rfl
theorem k_1_161 : (Cond.lays "java/lang/IndexOutOfBoundsException" "java/lang/Throwable" "depth" "I") ∈ Cw := cw_1 161 rfl rfl
theorem k_1_163 : (Cond.methodLink "SightGraph" 63 y_g_gatherAncestors) ∈ Cw := cw_1 163 rfl rfl
theorem k_1_165 : (Cond.instanceMethod y_g_gatherAncestors) ∈ Cw := cw_1 165 rfl rfl
theorem k_1_166 : (Cond.code y_g_gatherAncestors b_g_gatherAncestors 4 none) ∈ Cw := cw_1 166 rfl rfl
theorem k_1_167 : (Cond.methodLink "SightGraph" 120 y_g_addAncestorsOf) ∈ Cw := cw_1 167 rfl rfl
theorem k_1_169 : (Cond.instanceMethod y_g_addAncestorsOf) ∈ Cw := cw_1 169 rfl rfl
theorem k_1_170 : (Cond.code y_g_addAncestorsOf b_g_addAncestorsOf 3 none) ∈ Cw := cw_1 170 rfl rfl
theorem k_1_171 : (Cond.methodLink "SightGraph" 67 y_g_forkersWithin) ∈ Cw := cw_1 171 rfl rfl
theorem k_1_173 : (Cond.instanceMethod y_g_forkersWithin) ∈ Cw := cw_1 173 rfl rfl
theorem k_1_174 : (Cond.code y_g_forkersWithin b_g_forkersWithin 7 (some .int)) ∈ Cw := cw_1 174 rfl rfl
theorem k_1_175 : (Cond.methodLink "SightGraph" 134 y_g_hasForkWithin) ∈ Cw := cw_1 175 rfl rfl
theorem k_1_177 : (Cond.instanceMethod y_g_hasForkWithin) ∈ Cw := cw_1 177 rfl rfl
theorem k_1_178 : (Cond.code y_g_hasForkWithin b_g_hasForkWithin 9 (some .boolean)) ∈ Cw := cw_1 178 rfl rfl
theorem k_1_179 : (Cond.methodLink "SightGraph" 124 y_g_isWithin) ∈ Cw := cw_1 179 rfl rfl
theorem k_1_180 : (Cond.static y_g_isWithin) ∈ Cw := cw_1 180 rfl rfl
theorem k_1_181 : (Cond.code y_g_isWithin b_g_isWithin 7 (some .boolean)) ∈ Cw := cw_1 181 rfl rfl
theorem k_1_182 : (Cond.methodLink "SightGraph" 71 y_g_roundFrom) ∈ Cw := cw_1 182 rfl rfl
theorem k_1_184 : (Cond.instanceMethod y_g_roundFrom) ∈ Cw := cw_1 184 rfl rfl
theorem k_1_185 : (Cond.code y_g_roundFrom b_g_roundFrom 5 (some .int)) ∈ Cw := cw_1 185 rfl rfl
theorem k_1_186 : (Cond.methodLink "SightGraph" 137 y_g_roundOfParent) ∈ Cw := cw_1 186 rfl rfl
theorem k_1_188 : (Cond.instanceMethod y_g_roundOfParent) ∈ Cw := cw_1 188 rfl rfl
theorem k_1_189 : (Cond.code y_g_roundOfParent b_g_roundOfParent 2 (some .int)) ∈ Cw := cw_1 189 rfl rfl
theorem k_1_190 : (Cond.methodLink "SightGraph" 140 Lib.Math.max.name) ∈ Cw := cw_1 190 rfl rfl
theorem k_1_191 : (Cond.static Lib.Math.max.name) ∈ Cw := cw_1 191 rfl rfl
theorem k_1_192 : (Cond.code Lib.Math.max.name Lib.Math.max.code 2 (some .int)) ∈ Cw := cw_1 192 rfl rfl
theorem k_1_193 : (Cond.methodLink "SightGraph" 145 y_g_nodesWithWitnessFor) ∈ Cw := cw_1 193 rfl rfl
theorem k_1_195 : (Cond.instanceMethod y_g_nodesWithWitnessFor) ∈ Cw := cw_1 195 rfl rfl
theorem k_1_196 : (Cond.code y_g_nodesWithWitnessFor b_g_nodesWithWitnessFor 5 (some .int)) ∈ Cw := cw_1 196 rfl rfl
theorem k_1_197 : (Cond.methodLink "SightGraph" 95 y_g_opensRound) ∈ Cw := cw_1 197 rfl rfl
theorem k_1_199 : (Cond.instanceMethod y_g_opensRound) ∈ Cw := cw_1 199 rfl rfl
theorem k_1_200 : (Cond.code y_g_opensRound b_g_opensRound 3 (some .boolean)) ∈ Cw := cw_1 200 rfl rfl
theorem k_1_201 : (Cond.methodLink "SightGraph" 87 y_g_nodesBetween) ∈ Cw := cw_1 201 rfl rfl
theorem k_1_203 : (Cond.instanceMethod y_g_nodesBetween) ∈ Cw := cw_1 203 rfl rfl
theorem k_1_204 : (Cond.code y_g_nodesBetween b_g_nodesBetween 5 (some .int)) ∈ Cw := cw_1 204 rfl rfl
theorem k_1_205 : (Cond.methodLink "SightGraph" 84 y_g_hasSight) ∈ Cw := cw_1 205 rfl rfl
theorem k_1_207 : (Cond.instanceMethod y_g_hasSight) ∈ Cw := cw_1 207 rfl rfl
theorem k_1_208 : (Cond.code y_g_hasSight b_g_hasSight 3 (some .boolean)) ∈ Cw := cw_1 208 rfl rfl
theorem k_1_209 : (Cond.methodLink "SightGraph" 78 y_g_hasAncestor) ∈ Cw := cw_1 209 rfl rfl
theorem k_1_211 : (Cond.instanceMethod y_g_hasAncestor) ∈ Cw := cw_1 211 rfl rfl
theorem k_1_212 : (Cond.code y_g_hasAncestor b_g_hasAncestor 3 (some .boolean)) ∈ Cw := cw_1 212 rfl rfl
theorem k_1_213 : (Cond.methodLink "SightGraph" 81 y_g_hasBit) ∈ Cw := cw_1 213 rfl rfl
theorem k_1_214 : (Cond.static y_g_hasBit) ∈ Cw := cw_1 214 rfl rfl
theorem k_1_215 : (Cond.code y_g_hasBit b_g_hasBit 2 (some .boolean)) ∈ Cw := cw_1 215 rfl rfl
theorem k_1_216 : (Cond.methodLink "SightGraph" 102 y_j_bitCount) ∈ Cw := cw_1 216 rfl rfl
theorem k_1_217 : (Cond.static y_j_bitCount) ∈ Cw := cw_1 217 rfl rfl
theorem k_1_218 : (Cond.code y_j_bitCount b_j_bitCount 1 (some .int)) ∈ Cw := cw_1 218 rfl rfl
theorem k_1_219 : (Cond.constant "java/lang/Integer" 265 (1431655765 : Int32)) ∈ Cw := cw_1 219 rfl rfl
theorem k_1_220 : (Cond.constant "java/lang/Integer" 266 (858993459 : Int32)) ∈ Cw := cw_1 220 rfl rfl
theorem k_1_221 : (Cond.constant "java/lang/Integer" 267 (252645135 : Int32)) ∈ Cw := cw_1 221 rfl rfl
theorem k_1_222 : (Cond.methodLink "SightGraph" 91 y_g_isMany) ∈ Cw := cw_1 222 rfl rfl
theorem k_1_224 : (Cond.instanceMethod y_g_isMany) ∈ Cw := cw_1 224 rfl rfl
theorem k_1_225 : (Cond.code y_g_isMany b_g_isMany 2 (some .boolean)) ∈ Cw := cw_1 225 rfl rfl
theorem k_1_226 : (Cond.methodLink "SightGraphLaw" 70 y_l_ancestor) ∈ Cw := cw_1 226 rfl rfl
theorem k_1_227 : (Cond.static y_l_ancestor) ∈ Cw := cw_1 227 rfl rfl
theorem k_1_228 : (Cond.codeWith y_l_ancestor b_l_ancestor 5 (some .int) [(0, 17, 20, 19)]) ∈ Cw := cw_1 228 rfl rfl
theorem k_1_229 : (Cond.methodLink "SightGraphLaw" 21 y_g_ancestor) ∈ Cw := cw_1 229 rfl rfl
theorem k_1_230 : (Cond.instanceMethod y_g_ancestor) ∈ Cw := cw_1 230 rfl rfl
theorem k_1_231 : (Cond.selects "SightGraph" y_g_ancestor y_g_ancestor) ∈ Cw := cw_1 231 rfl rfl
theorem k_1_232 : (Cond.code y_g_ancestor b_g_ancestor 3 (some .boolean)) ∈ Cw := cw_1 232 rfl rfl
theorem k_1_233 : (Cond.methodLink "SightGraph" 75 y_g_requireEvent) ∈ Cw := cw_1 233 rfl rfl
theorem k_1_235 : (Cond.instanceMethod y_g_requireEvent) ∈ Cw := cw_1 235 rfl rfl
theorem k_1_236 : (Cond.code y_g_requireEvent b_g_requireEvent 2 none) ∈ Cw := cw_1 236 rfl rfl
theorem k_1_238 : (Cond.methodLink "SightGraphLaw" 74 y_l_own) ∈ Cw := cw_1 238 rfl rfl
theorem k_1_239 : (Cond.static y_l_own) ∈ Cw := cw_1 239 rfl rfl
theorem k_2_0 : (Cond.codeWith y_l_own b_l_own 5 (some .int) [(0, 17, 20, 19)]) ∈ Cw := cw_2 0 rfl rfl
theorem k_2_1 : (Cond.methodLink "SightGraphLaw" 25 y_g_own) ∈ Cw := cw_2 1 rfl rfl
theorem k_2_2 : (Cond.instanceMethod y_g_own) ∈ Cw := cw_2 2 rfl rfl
theorem k_2_3 : (Cond.selects "SightGraph" y_g_own y_g_own) ∈ Cw := cw_2 3 rfl rfl
theorem k_2_4 : (Cond.code y_g_own b_g_own 5 (some .boolean)) ∈ Cw := cw_2 4 rfl rfl
theorem k_2_5 : (Cond.methodLink "SightGraphLaw" 77 y_l_forked) ∈ Cw := cw_2 5 rfl rfl
theorem k_2_6 : (Cond.static y_l_forked) ∈ Cw := cw_2 6 rfl rfl
theorem k_2_7 : (Cond.codeWith y_l_forked b_l_forked 5 (some .int) [(0, 17, 20, 13), (0, 17, 24, 19)]) ∈ Cw := cw_2 7 rfl rfl
theorem k_2_8 : (Cond.methodLink "SightGraphLaw" 28 y_g_forked) ∈ Cw := cw_2 8 rfl rfl
theorem k_2_9 : (Cond.instanceMethod y_g_forked) ∈ Cw := cw_2 9 rfl rfl
theorem k_2_10 : (Cond.selects "SightGraph" y_g_forked y_g_forked) ∈ Cw := cw_2 10 rfl rfl
theorem k_2_11 : (Cond.code y_g_forked b_g_forked 3 (some .boolean)) ∈ Cw := cw_2 11 rfl rfl
theorem k_2_12 : (Cond.methodLink "SightGraphLaw" 80 y_l_sees) ∈ Cw := cw_2 12 rfl rfl
theorem k_2_13 : (Cond.static y_l_sees) ∈ Cw := cw_2 13 rfl rfl
theorem k_2_14 : (Cond.codeWith y_l_sees b_l_sees 5 (some .int) [(0, 17, 20, 19)]) ∈ Cw := cw_2 14 rfl rfl
theorem k_2_15 : (Cond.methodLink "SightGraphLaw" 31 y_g_sees) ∈ Cw := cw_2 15 rfl rfl
theorem k_2_16 : (Cond.instanceMethod y_g_sees) ∈ Cw := cw_2 16 rfl rfl
theorem k_2_17 : (Cond.selects "SightGraph" y_g_sees y_g_sees) ∈ Cw := cw_2 17 rfl rfl
theorem k_2_18 : (Cond.code y_g_sees b_g_sees 3 (some .boolean)) ∈ Cw := cw_2 18 rfl rfl
theorem k_2_19 : (Cond.methodLink "SightGraphLaw" 83 y_l_strength) ∈ Cw := cw_2 19 rfl rfl
theorem k_2_20 : (Cond.static y_l_strength) ∈ Cw := cw_2 20 rfl rfl
theorem k_2_21 : (Cond.codeWith y_l_strength b_l_strength 5 (some .int) [(0, 10, 13, 19)]) ∈ Cw := cw_2 21 rfl rfl
theorem k_2_22 : (Cond.methodLink "SightGraphLaw" 34 y_g_strength) ∈ Cw := cw_2 22 rfl rfl
theorem k_2_23 : (Cond.instanceMethod y_g_strength) ∈ Cw := cw_2 23 rfl rfl
theorem k_2_24 : (Cond.selects "SightGraph" y_g_strength y_g_strength) ∈ Cw := cw_2 24 rfl rfl
theorem k_2_25 : (Cond.code y_g_strength b_g_strength 3 (some .int)) ∈ Cw := cw_2 25 rfl rfl
theorem k_2_26 : (Cond.methodLink "SightGraphLaw" 86 y_l_strongly) ∈ Cw := cw_2 26 rfl rfl
theorem k_2_27 : (Cond.static y_l_strongly) ∈ Cw := cw_2 27 rfl rfl
theorem k_2_28 : (Cond.codeWith y_l_strongly b_l_strongly 5 (some .int) [(0, 17, 20, 19)]) ∈ Cw := cw_2 28 rfl rfl
theorem k_2_29 : (Cond.methodLink "SightGraphLaw" 38 y_g_strongly) ∈ Cw := cw_2 29 rfl rfl
theorem k_2_30 : (Cond.instanceMethod y_g_strongly) ∈ Cw := cw_2 30 rfl rfl
theorem k_2_31 : (Cond.selects "SightGraph" y_g_strongly y_g_strongly) ∈ Cw := cw_2 31 rfl rfl
theorem k_2_32 : (Cond.code y_g_strongly b_g_strongly 3 (some .boolean)) ∈ Cw := cw_2 32 rfl rfl
theorem k_2_33 : (Cond.methodLink "SightGraphLaw" 89 y_l_round) ∈ Cw := cw_2 33 rfl rfl
theorem k_2_34 : (Cond.static y_l_round) ∈ Cw := cw_2 34 rfl rfl
theorem k_2_35 : (Cond.codeWith y_l_round b_l_round 4 (some .int) [(0, 9, 12, 19)]) ∈ Cw := cw_2 35 rfl rfl
theorem k_2_36 : (Cond.methodLink "SightGraphLaw" 41 y_g_round) ∈ Cw := cw_2 36 rfl rfl
theorem k_2_37 : (Cond.instanceMethod y_g_round) ∈ Cw := cw_2 37 rfl rfl
theorem k_2_38 : (Cond.selects "SightGraph" y_g_round y_g_round) ∈ Cw := cw_2 38 rfl rfl
theorem k_2_39 : (Cond.code y_g_round b_g_round 2 (some .int)) ∈ Cw := cw_2 39 rfl rfl
theorem k_2_40 : (Cond.methodLink "SightGraphLaw" 93 y_l_witness) ∈ Cw := cw_2 40 rfl rfl
theorem k_2_41 : (Cond.static y_l_witness) ∈ Cw := cw_2 41 rfl rfl
theorem k_2_42 : (Cond.codeWith y_l_witness b_l_witness 4 (some .int) [(0, 16, 19, 19)]) ∈ Cw := cw_2 42 rfl rfl
theorem k_2_43 : (Cond.methodLink "SightGraphLaw" 45 y_g_witness) ∈ Cw := cw_2 43 rfl rfl
theorem k_2_44 : (Cond.instanceMethod y_g_witness) ∈ Cw := cw_2 44 rfl rfl
theorem k_2_45 : (Cond.selects "SightGraph" y_g_witness y_g_witness) ∈ Cw := cw_2 45 rfl rfl
theorem k_2_46 : (Cond.code y_g_witness b_g_witness 2 (some .boolean)) ∈ Cw := cw_2 46 rfl rfl
theorem k_2_47 : (Cond.methodLink "SightGraphLaw" 96 y_l_count) ∈ Cw := cw_2 47 rfl rfl
theorem k_2_48 : (Cond.static y_l_count) ∈ Cw := cw_2 48 rfl rfl
theorem k_2_49 : (Cond.codeWith y_l_count b_l_count 4 (some .int) [(0, 9, 12, 13)]) ∈ Cw := cw_2 49 rfl rfl
theorem k_2_50 : (Cond.methodLink "SightGraphLaw" 49 y_g_count) ∈ Cw := cw_2 50 rfl rfl
theorem k_2_51 : (Cond.instanceMethod y_g_count) ∈ Cw := cw_2 51 rfl rfl
theorem k_2_52 : (Cond.selects "SightGraph" y_g_count y_g_count) ∈ Cw := cw_2 52 rfl rfl
theorem k_2_53 : (Cond.code y_g_count b_g_count 2 (some .int)) ∈ Cw := cw_2 53 rfl rfl
theorem k_2_54 : (Cond.methodLink "SightGraph" 98 y_g_forkersOfAll) ∈ Cw := cw_2 54 rfl rfl
theorem k_2_56 : (Cond.instanceMethod y_g_forkersOfAll) ∈ Cw := cw_2 56 rfl rfl
theorem k_2_57 : (Cond.code y_g_forkersOfAll b_g_forkersOfAll 1 (some .int)) ∈ Cw := cw_2 57 rfl rfl
theorem k_2_58 : (Cond.methodLink "SightGraph" 130 y_g_lowestBits) ∈ Cw := cw_2 58 rfl rfl
theorem k_2_59 : (Cond.static y_g_lowestBits) ∈ Cw := cw_2 59 rfl rfl
theorem k_2_60 : (Cond.code y_g_lowestBits b_g_lowestBits 1 (some .long)) ∈ Cw := cw_2 60 rfl rfl
theorem k_2_61 : (Cond.constantLong "SightGraph" 128 (-1 : Int64)) ∈ Cw := cw_2 61 rfl rfl
theorem k_2_62 : (Cond.methodLink "SightGraph" 108 y_g_greatestRound) ∈ Cw := cw_2 62 rfl rfl
theorem k_2_64 : (Cond.instanceMethod y_g_greatestRound) ∈ Cw := cw_2 64 rfl rfl
theorem k_2_65 : (Cond.code y_g_greatestRound b_g_greatestRound 3 (some .int)) ∈ Cw := cw_2 65 rfl rfl
theorem k_2_67 : (Cond.classLink "SightGraphLaw" 53 "SightGraphModel") ∈ Cw := cw_2 67 rfl rfl
theorem k_2_68 : (Cond.instantiable "SightGraphModel" 10) ∈ Cw := cw_2 68 rfl rfl
theorem k_2_69 : (Cond.methodLink "SightGraphLaw" 55 y_r_init) ∈ Cw := cw_2 69 rfl rfl
theorem k_2_70 : (Cond.instanceMethod y_r_init) ∈ Cw := cw_2 70 rfl rfl
theorem k_2_71 : (Cond.code y_r_init b_r_init 1 none) ∈ Cw := cw_2 71 rfl rfl
theorem k_2_72 : (Cond.methodLink "SightGraphModel" 1 objectInit) ∈ Cw := cw_2 72 rfl rfl
theorem k_2_73 : (Cond.fieldLink "SightGraphModel" 36 "SightGraphModel" "err" "I") ∈ Cw := cw_2 73 rfl rfl
theorem k_2_74 : (Cond.fieldLink "SightGraphModel" 7 "SightGraphModel" "nodes" "I") ∈ Cw := cw_2 74 rfl rfl
theorem k_2_75 : (Cond.fieldLink "SightGraphModel" 39 "SightGraphModel" "events" "I") ∈ Cw := cw_2 75 rfl rfl
theorem k_2_76 : (Cond.fieldLink "SightGraphModel" 13 "SightGraphModel" "creator" "[I") ∈ Cw := cw_2 76 rfl rfl
theorem k_2_77 : (Cond.fieldLink "SightGraphModel" 17 "SightGraphModel" "self" "[I") ∈ Cw := cw_2 77 rfl rfl
theorem k_2_78 : (Cond.fieldLink "SightGraphModel" 20 "SightGraphModel" "other" "[I") ∈ Cw := cw_2 78 rfl rfl
theorem k_2_79 : (Cond.fieldLink "SightGraphModel" 23 "SightGraphModel" "rounds" "[I") ∈ Cw := cw_2 79 rfl rfl
theorem k_2_80 : (Cond.fieldLink "SightGraphModel" 26 "SightGraphModel" "todo" "[I") ∈ Cw := cw_2 80 rfl rfl
theorem k_2_81 : (Cond.fieldLink "SightGraphModel" 29 "SightGraphModel" "above" "[Z") ∈ Cw := cw_2 81 rfl rfl
theorem k_2_82 : (Cond.fieldLink "SightGraphModel" 33 "SightGraphModel" "forks" "[Z") ∈ Cw := cw_2 82 rfl rfl
theorem k_2_83 : (Cond.lays "SightGraphModel" "SightGraphModel" "err" "I") ∈ Cw := cw_2 83 rfl rfl
theorem k_2_85 : (Cond.lays "SightGraphModel" "SightGraphModel" "nodes" "I") ∈ Cw := cw_2 85 rfl rfl
theorem k_2_87 : (Cond.lays "SightGraphModel" "SightGraphModel" "events" "I") ∈ Cw := cw_2 87 rfl rfl
theorem k_2_89 : (Cond.laysFinal "SightGraphModel" "SightGraphModel" "creator" "[I") ∈ Cw := cw_2 89 rfl rfl
theorem k_2_91 : (Cond.laysFinal "SightGraphModel" "SightGraphModel" "self" "[I") ∈ Cw := cw_2 91 rfl rfl
theorem k_2_93 : (Cond.laysFinal "SightGraphModel" "SightGraphModel" "other" "[I") ∈ Cw := cw_2 93 rfl rfl
theorem k_2_95 : (Cond.laysFinal "SightGraphModel" "SightGraphModel" "rounds" "[I") ∈ Cw := cw_2 95 rfl rfl
theorem k_2_97 : (Cond.laysFinal "SightGraphModel" "SightGraphModel" "todo" "[I") ∈ Cw := cw_2 97 rfl rfl
theorem k_2_99 : (Cond.laysFinal "SightGraphModel" "SightGraphModel" "above" "[Z") ∈ Cw := cw_2 99 rfl rfl
theorem k_2_101 : (Cond.laysFinal "SightGraphModel" "SightGraphModel" "forks" "[Z") ∈ Cw := cw_2 101 rfl rfl
theorem k_2_104 : (Cond.arrayClass .boolean) ∈ Cw := cw_2 104 rfl rfl
theorem k_2_105 : (Cond.methodLink "SightGraphLaw" 62 y_r_thrown) ∈ Cw := cw_2 105 rfl rfl
theorem k_2_106 : (Cond.instanceMethod y_r_thrown) ∈ Cw := cw_2 106 rfl rfl
theorem k_2_107 : (Cond.selects "SightGraphModel" y_r_thrown y_r_thrown) ∈ Cw := cw_2 107 rfl rfl
theorem k_2_108 : (Cond.code y_r_thrown b_r_thrown 1 (some .int)) ∈ Cw := cw_2 108 rfl rfl
theorem k_2_109 : (Cond.methodLink "SightGraphLaw" 61 y_r_begin) ∈ Cw := cw_2 109 rfl rfl
theorem k_2_110 : (Cond.instanceMethod y_r_begin) ∈ Cw := cw_2 110 rfl rfl
theorem k_2_111 : (Cond.selects "SightGraphModel" y_r_begin y_r_begin) ∈ Cw := cw_2 111 rfl rfl
theorem k_2_112 : (Cond.code y_r_begin b_r_begin 2 none) ∈ Cw := cw_2 112 rfl rfl
theorem k_2_113 : (Cond.constantLong "SightGraphModel" 50 (2 : Int64)) ∈ Cw := cw_2 113 rfl rfl
theorem k_2_114 : (Cond.constantLong "SightGraphModel" 52 (8 : Int64)) ∈ Cw := cw_2 114 rfl rfl
theorem k_2_115 : (Cond.methodLink "SightGraphModel" 42 y_r_in) ∈ Cw := cw_2 115 rfl rfl
theorem k_2_116 : (Cond.static y_r_in) ∈ Cw := cw_2 116 rfl rfl
theorem k_2_117 : (Cond.code y_r_in b_r_in 6 (some .boolean)) ∈ Cw := cw_2 117 rfl rfl
theorem k_2_118 : (Cond.methodLink "SightGraphModel" 54 y_r_fails) ∈ Cw := cw_2 118 rfl rfl
theorem k_2_120 : (Cond.instanceMethod y_r_fails) ∈ Cw := cw_2 120 rfl rfl
theorem k_2_121 : (Cond.code y_r_fails b_r_fails 3 (some .boolean)) ∈ Cw := cw_2 121 rfl rfl
theorem k_2_122 : (Cond.methodLink "SightGraphLaw" 69 y_r_event) ∈ Cw := cw_2 122 rfl rfl
theorem k_2_123 : (Cond.instanceMethod y_r_event) ∈ Cw := cw_2 123 rfl rfl
theorem k_2_124 : (Cond.selects "SightGraphModel" y_r_event y_r_event) ∈ Cw := cw_2 124 rfl rfl
theorem k_2_125 : (Cond.code y_r_event b_r_event 10 (some .int)) ∈ Cw := cw_2 125 rfl rfl
theorem k_2_126 : (Cond.methodLink "SightGraphModel" 61 y_r_isEvent) ∈ Cw := cw_2 126 rfl rfl
theorem k_2_128 : (Cond.instanceMethod y_r_isEvent) ∈ Cw := cw_2 128 rfl rfl
theorem k_2_129 : (Cond.code y_r_isEvent b_r_isEvent 2 (some .boolean)) ∈ Cw := cw_2 129 rfl rfl
theorem k_2_130 : (Cond.methodLink "SightGraphModel" 65 y_r_ways) ∈ Cw := cw_2 130 rfl rfl
theorem k_2_132 : (Cond.instanceMethod y_r_ways) ∈ Cw := cw_2 132 rfl rfl
theorem k_2_133 : (Cond.code y_r_ways b_r_ways 4 none) ∈ Cw := cw_2 133 rfl rfl
theorem k_2_134 : (Cond.methodLink "SightGraphModel" 58 y_r_isAbove) ∈ Cw := cw_2 134 rfl rfl
theorem k_2_136 : (Cond.instanceMethod y_r_isAbove) ∈ Cw := cw_2 136 rfl rfl
theorem k_2_137 : (Cond.code y_r_isAbove b_r_isAbove 3 (some .boolean)) ∈ Cw := cw_2 137 rfl rfl
theorem k_2_138 : (Cond.methodLink "SightGraphModel" 69 y_r_isFork) ∈ Cw := cw_2 138 rfl rfl
theorem k_2_140 : (Cond.instanceMethod y_r_isFork) ∈ Cw := cw_2 140 rfl rfl
theorem k_2_141 : (Cond.code y_r_isFork b_r_isFork 3 (some .boolean)) ∈ Cw := cw_2 141 rfl rfl
theorem k_2_142 : (Cond.methodLink "SightGraphModel" 46 y_r_isOwn) ∈ Cw := cw_2 142 rfl rfl
theorem k_2_144 : (Cond.instanceMethod y_r_isOwn) ∈ Cw := cw_2 144 rfl rfl
theorem k_2_145 : (Cond.code y_r_isOwn b_r_isOwn 4 (some .boolean)) ∈ Cw := cw_2 145 rfl rfl
theorem k_2_146 : (Cond.methodLink "SightGraphModel" 72 Lib.Math.max.name) ∈ Cw := cw_2 146 rfl rfl
theorem k_2_147 : (Cond.methodLink "SightGraphModel" 78 y_r_isWitness) ∈ Cw := cw_2 147 rfl rfl
theorem k_2_149 : (Cond.instanceMethod y_r_isWitness) ∈ Cw := cw_2 149 rfl rfl
theorem k_2_150 : (Cond.code y_r_isWitness b_r_isWitness 2 (some .boolean)) ∈ Cw := cw_2 150 rfl rfl
theorem k_2_151 : (Cond.methodLink "SightGraphModel" 81 y_r_isStrong) ∈ Cw := cw_2 151 rfl rfl
theorem k_2_153 : (Cond.instanceMethod y_r_isStrong) ∈ Cw := cw_2 153 rfl rfl
theorem k_2_154 : (Cond.code y_r_isStrong b_r_isStrong 3 (some .boolean)) ∈ Cw := cw_2 154 rfl rfl
theorem k_2_155 : (Cond.methodLink "SightGraphModel" 87 y_r_strengthOf) ∈ Cw := cw_2 155 rfl rfl
theorem k_2_157 : (Cond.instanceMethod y_r_strengthOf) ∈ Cw := cw_2 157 rfl rfl
theorem k_2_158 : (Cond.code y_r_strengthOf b_r_strengthOf 7 (some .int)) ∈ Cw := cw_2 158 rfl rfl
theorem k_2_159 : (Cond.methodLink "SightGraphModel" 84 y_r_isSeen) ∈ Cw := cw_2 159 rfl rfl
theorem k_2_161 : (Cond.instanceMethod y_r_isSeen) ∈ Cw := cw_2 161 rfl rfl
theorem k_2_162 : (Cond.code y_r_isSeen b_r_isSeen 3 (some .boolean)) ∈ Cw := cw_2 162 rfl rfl
theorem k_2_163 : (Cond.methodLink "SightGraphLaw" 73 y_r_ancestor) ∈ Cw := cw_2 163 rfl rfl
theorem k_2_164 : (Cond.instanceMethod y_r_ancestor) ∈ Cw := cw_2 164 rfl rfl
theorem k_2_165 : (Cond.selects "SightGraphModel" y_r_ancestor y_r_ancestor) ∈ Cw := cw_2 165 rfl rfl
theorem k_2_166 : (Cond.code y_r_ancestor b_r_ancestor 3 (some .boolean)) ∈ Cw := cw_2 166 rfl rfl
theorem k_2_167 : (Cond.methodLink "SightGraphLaw" 76 y_r_own) ∈ Cw := cw_2 167 rfl rfl
theorem k_2_168 : (Cond.instanceMethod y_r_own) ∈ Cw := cw_2 168 rfl rfl
theorem k_2_169 : (Cond.selects "SightGraphModel" y_r_own y_r_own) ∈ Cw := cw_2 169 rfl rfl
theorem k_2_170 : (Cond.code y_r_own b_r_own 3 (some .boolean)) ∈ Cw := cw_2 170 rfl rfl
theorem k_2_171 : (Cond.methodLink "SightGraphLaw" 79 y_r_forked) ∈ Cw := cw_2 171 rfl rfl
theorem k_2_172 : (Cond.instanceMethod y_r_forked) ∈ Cw := cw_2 172 rfl rfl
theorem k_2_173 : (Cond.selects "SightGraphModel" y_r_forked y_r_forked) ∈ Cw := cw_2 173 rfl rfl
theorem k_2_174 : (Cond.code y_r_forked b_r_forked 3 (some .boolean)) ∈ Cw := cw_2 174 rfl rfl
theorem k_2_175 : (Cond.methodLink "SightGraphLaw" 82 y_r_sees) ∈ Cw := cw_2 175 rfl rfl
theorem k_2_176 : (Cond.instanceMethod y_r_sees) ∈ Cw := cw_2 176 rfl rfl
theorem k_2_177 : (Cond.selects "SightGraphModel" y_r_sees y_r_sees) ∈ Cw := cw_2 177 rfl rfl
theorem k_2_178 : (Cond.code y_r_sees b_r_sees 3 (some .boolean)) ∈ Cw := cw_2 178 rfl rfl
theorem k_2_179 : (Cond.methodLink "SightGraphLaw" 85 y_r_strength) ∈ Cw := cw_2 179 rfl rfl
theorem k_2_180 : (Cond.instanceMethod y_r_strength) ∈ Cw := cw_2 180 rfl rfl
theorem k_2_181 : (Cond.selects "SightGraphModel" y_r_strength y_r_strength) ∈ Cw := cw_2 181 rfl rfl
theorem k_2_182 : (Cond.code y_r_strength b_r_strength 3 (some .int)) ∈ Cw := cw_2 182 rfl rfl
theorem k_2_183 : (Cond.methodLink "SightGraphLaw" 88 y_r_strongly) ∈ Cw := cw_2 183 rfl rfl
theorem k_2_184 : (Cond.instanceMethod y_r_strongly) ∈ Cw := cw_2 184 rfl rfl
theorem k_2_185 : (Cond.selects "SightGraphModel" y_r_strongly y_r_strongly) ∈ Cw := cw_2 185 rfl rfl
theorem k_2_186 : (Cond.code y_r_strongly b_r_strongly 3 (some .boolean)) ∈ Cw := cw_2 186 rfl rfl
theorem k_2_187 : (Cond.methodLink "SightGraphLaw" 92 y_r_round) ∈ Cw := cw_2 187 rfl rfl
theorem k_2_188 : (Cond.instanceMethod y_r_round) ∈ Cw := cw_2 188 rfl rfl
theorem k_2_189 : (Cond.selects "SightGraphModel" y_r_round y_r_round) ∈ Cw := cw_2 189 rfl rfl
theorem k_2_190 : (Cond.code y_r_round b_r_round 2 (some .int)) ∈ Cw := cw_2 190 rfl rfl
theorem k_2_191 : (Cond.methodLink "SightGraphLaw" 95 y_r_witness) ∈ Cw := cw_2 191 rfl rfl
theorem k_2_192 : (Cond.instanceMethod y_r_witness) ∈ Cw := cw_2 192 rfl rfl
theorem k_2_193 : (Cond.selects "SightGraphModel" y_r_witness y_r_witness) ∈ Cw := cw_2 193 rfl rfl
theorem k_2_194 : (Cond.code y_r_witness b_r_witness 2 (some .boolean)) ∈ Cw := cw_2 194 rfl rfl
theorem k_2_195 : (Cond.methodLink "SightGraphLaw" 98 y_r_count) ∈ Cw := cw_2 195 rfl rfl
theorem k_2_196 : (Cond.instanceMethod y_r_count) ∈ Cw := cw_2 196 rfl rfl
theorem k_2_197 : (Cond.selects "SightGraphModel" y_r_count y_r_count) ∈ Cw := cw_2 197 rfl rfl
theorem k_2_198 : (Cond.code y_r_count b_r_count 7 (some .int)) ∈ Cw := cw_2 198 rfl rfl
theorem k_2_199 : (Cond.constantLong "SightGraphModel" 90 (3 : Int64)) ∈ Cw := cw_2 199 rfl rfl
theorem k_s_1 : (Cond.selects "SightGraph" y_g_requireNode y_g_requireNode) ∈ Cw := cw_s 1 rfl rfl
theorem k_s_2 : (Cond.selects "SightGraph" y_g_mayBeSelfParent y_g_mayBeSelfParent) ∈ Cw := cw_s 2 rfl rfl
theorem k_s_3 : (Cond.selects "SightGraph" y_g_isEvent y_g_isEvent) ∈ Cw := cw_s 3 rfl rfl
theorem k_s_4 : (Cond.selects "SightGraph" y_g_mayBeOtherParent y_g_mayBeOtherParent) ∈ Cw := cw_s 4 rfl rfl
theorem k_s_5 : (Cond.selects "SightGraph" y_g_gatherAncestors y_g_gatherAncestors) ∈ Cw := cw_s 5 rfl rfl
theorem k_s_6 : (Cond.selects "SightGraph" y_g_addAncestorsOf y_g_addAncestorsOf) ∈ Cw := cw_s 6 rfl rfl
theorem k_s_7 : (Cond.selects "SightGraph" y_g_forkersWithin y_g_forkersWithin) ∈ Cw := cw_s 7 rfl rfl
theorem k_s_8 : (Cond.selects "SightGraph" y_g_hasForkWithin y_g_hasForkWithin) ∈ Cw := cw_s 8 rfl rfl
theorem k_s_9 : (Cond.selects "SightGraph" y_g_roundFrom y_g_roundFrom) ∈ Cw := cw_s 9 rfl rfl
theorem k_s_10 : (Cond.selects "SightGraph" y_g_roundOfParent y_g_roundOfParent) ∈ Cw := cw_s 10 rfl rfl
theorem k_s_11 : (Cond.selects "SightGraph" y_g_nodesWithWitnessFor y_g_nodesWithWitnessFor) ∈ Cw := cw_s 11 rfl rfl
theorem k_s_12 : (Cond.selects "SightGraph" y_g_opensRound y_g_opensRound) ∈ Cw := cw_s 12 rfl rfl
theorem k_s_13 : (Cond.selects "SightGraph" y_g_nodesBetween y_g_nodesBetween) ∈ Cw := cw_s 13 rfl rfl
theorem k_s_14 : (Cond.selects "SightGraph" y_g_hasSight y_g_hasSight) ∈ Cw := cw_s 14 rfl rfl
theorem k_s_15 : (Cond.selects "SightGraph" y_g_hasAncestor y_g_hasAncestor) ∈ Cw := cw_s 15 rfl rfl
theorem k_s_16 : (Cond.selects "SightGraph" y_g_isMany y_g_isMany) ∈ Cw := cw_s 16 rfl rfl
theorem k_s_17 : (Cond.selects "SightGraph" y_g_requireEvent y_g_requireEvent) ∈ Cw := cw_s 17 rfl rfl
theorem k_s_18 : (Cond.selects "SightGraph" y_g_forkersOfAll y_g_forkersOfAll) ∈ Cw := cw_s 18 rfl rfl
theorem k_s_19 : (Cond.selects "SightGraph" y_g_greatestRound y_g_greatestRound) ∈ Cw := cw_s 19 rfl rfl
theorem k_s_20 : (Cond.selects "SightGraphModel" y_r_fails y_r_fails) ∈ Cw := cw_s 20 rfl rfl
theorem k_s_21 : (Cond.selects "SightGraphModel" y_r_isEvent y_r_isEvent) ∈ Cw := cw_s 21 rfl rfl
theorem k_s_22 : (Cond.selects "SightGraphModel" y_r_ways y_r_ways) ∈ Cw := cw_s 22 rfl rfl
theorem k_s_23 : (Cond.selects "SightGraphModel" y_r_isAbove y_r_isAbove) ∈ Cw := cw_s 23 rfl rfl
theorem k_s_24 : (Cond.selects "SightGraphModel" y_r_isFork y_r_isFork) ∈ Cw := cw_s 24 rfl rfl
theorem k_s_25 : (Cond.selects "SightGraphModel" y_r_isOwn y_r_isOwn) ∈ Cw := cw_s 25 rfl rfl
theorem k_s_26 : (Cond.selects "SightGraphModel" y_r_isWitness y_r_isWitness) ∈ Cw := cw_s 26 rfl rfl
theorem k_s_27 : (Cond.selects "SightGraphModel" y_r_isStrong y_r_isStrong) ∈ Cw := cw_s 27 rfl rfl
theorem k_s_28 : (Cond.selects "SightGraphModel" y_r_strengthOf y_r_strengthOf) ∈ Cw := cw_s 28 rfl rfl
theorem k_s_29 : (Cond.selects "SightGraphModel" y_r_isSeen y_r_isSeen) ∈ Cw := cw_s 29 rfl rfl
