/-! cases of the law -/
theorem lw_9052 : Cond.methodLink RL 158 yL_has ∈ gw := gw_t4 123 rfl rfl
theorem lw_9053 : Cond.static yL_has ∈ gw := gw_t4 124 rfl rfl
theorem lw_9054 : Cond.codeWith yL_has cL_has 6 (some .int) [(0, 12, 15, 21), (0, 12, 19, 23)] ∈ gw := gw_t4 125 rfl rfl
theorem hdL_has : yL_has.cls ≠ "java/lang/invoke/MethodHandle" ∧ yL_has.cls ≠ "java/lang/invoke/VarHandle" ∧ (parseMethodDescriptor yL_has.desc).map (fun d => d.parameters.length) = some 5 := by decide +kernel
theorem lw_9055 : Cond.methodLink RL 161 yX12_has ∈ gw := gw_t7 237 rfl rfl
theorem lw_9056 : Cond.instanceMethod yX12_has ∈ gw := gw_t7 238 rfl rfl
theorem lw_9057 : Cond.selects RX12 yX12_has yX12_has ∈ gw := gw_t7 239 rfl rfl
theorem lw_9058 : Cond.code yX12_has cX12_has 4 (some .int) ∈ gw := gw_t8 0 rfl rfl
theorem hdX12_has : yX12_has.cls = RX12 ∧ yX12_has.cls ≠ "java/lang/invoke/MethodHandle" ∧ yX12_has.cls ≠ "java/lang/invoke/VarHandle" ∧ (parseMethodDescriptor yX12_has.desc).map (fun d => d.parameters.length) = some 3 := by decide +kernel
theorem lw_9059 : Cond.methodLink RL 162 yL_delivered ∈ gw := gw_t4 141 rfl rfl
theorem lw_9060 : Cond.static yL_delivered ∈ gw := gw_t4 142 rfl rfl
theorem lw_9061 : Cond.codeWith yL_delivered cL_delivered 5 (some .int) [(0, 10, 13, 21)] ∈ gw := gw_t4 143 rfl rfl
theorem hdL_delivered : yL_delivered.cls ≠ "java/lang/invoke/MethodHandle" ∧ yL_delivered.cls ≠ "java/lang/invoke/VarHandle" ∧ (parseMethodDescriptor yL_delivered.desc).map (fun d => d.parameters.length) = some 4 := by decide +kernel
theorem lw_9062 : Cond.methodLink RL 164 yX12_delivered ∈ gw := gw_t8 5 rfl rfl
theorem lw_9063 : Cond.instanceMethod yX12_delivered ∈ gw := gw_t8 6 rfl rfl
theorem lw_9064 : Cond.selects RX12 yX12_delivered yX12_delivered ∈ gw := gw_t8 7 rfl rfl
theorem lw_9065 : Cond.code yX12_delivered cX12_delivered 3 (some .int) ∈ gw := gw_t8 8 rfl rfl
theorem hdX12_delivered : yX12_delivered.cls = RX12 ∧ yX12_delivered.cls ≠ "java/lang/invoke/MethodHandle" ∧ yX12_delivered.cls ≠ "java/lang/invoke/VarHandle" ∧ (parseMethodDescriptor yX12_delivered.desc).map (fun d => d.parameters.length) = some 2 := by decide +kernel
theorem lw_9066 : Cond.methodLink RL 165 yL_channel ∈ gw := gw_t4 148 rfl rfl
theorem lw_9067 : Cond.static yL_channel ∈ gw := gw_t4 149 rfl rfl
theorem lw_9068 : Cond.codeWith yL_channel cL_channel 6 (some .int) [(0, 12, 15, 21), (0, 12, 19, 23)] ∈ gw := gw_t4 150 rfl rfl
theorem hdL_channel : yL_channel.cls ≠ "java/lang/invoke/MethodHandle" ∧ yL_channel.cls ≠ "java/lang/invoke/VarHandle" ∧ (parseMethodDescriptor yL_channel.desc).map (fun d => d.parameters.length) = some 5 := by decide +kernel
theorem lw_9069 : Cond.methodLink RL 167 yX12_channel ∈ gw := gw_t8 9 rfl rfl
theorem lw_9070 : Cond.instanceMethod yX12_channel ∈ gw := gw_t8 10 rfl rfl
theorem lw_9071 : Cond.selects RX12 yX12_channel yX12_channel ∈ gw := gw_t8 11 rfl rfl
theorem lw_9072 : Cond.code yX12_channel cX12_channel 4 (some .int) ∈ gw := gw_t8 12 rfl rfl
theorem hdX12_channel : yX12_channel.cls = RX12 ∧ yX12_channel.cls ≠ "java/lang/invoke/MethodHandle" ∧ yX12_channel.cls ≠ "java/lang/invoke/VarHandle" ∧ (parseMethodDescriptor yX12_channel.desc).map (fun d => d.parameters.length) = some 3 := by decide +kernel
theorem lw_9073 : Cond.methodLink RL 168 yL_packet ∈ gw := gw_t4 157 rfl rfl
theorem lw_9074 : Cond.static yL_packet ∈ gw := gw_t4 158 rfl rfl
theorem lw_9075 : Cond.codeWith yL_packet cL_packet 7 (some .int) [(0, 14, 17, 21), (0, 14, 21, 23)] ∈ gw := gw_t4 159 rfl rfl
theorem hdL_packet : yL_packet.cls ≠ "java/lang/invoke/MethodHandle" ∧ yL_packet.cls ≠ "java/lang/invoke/VarHandle" ∧ (parseMethodDescriptor yL_packet.desc).map (fun d => d.parameters.length) = some 6 := by decide +kernel
theorem lw_9076 : Cond.methodLink RL 171 yX12_packet ∈ gw := gw_t8 17 rfl rfl
theorem lw_9077 : Cond.instanceMethod yX12_packet ∈ gw := gw_t8 18 rfl rfl
theorem lw_9078 : Cond.selects RX12 yX12_packet yX12_packet ∈ gw := gw_t8 19 rfl rfl
theorem lw_9079 : Cond.code yX12_packet cX12_packet 5 (some .int) ∈ gw := gw_t8 20 rfl rfl
theorem hdX12_packet : yX12_packet.cls = RX12 ∧ yX12_packet.cls ≠ "java/lang/invoke/MethodHandle" ∧ yX12_packet.cls ≠ "java/lang/invoke/VarHandle" ∧ (parseMethodDescriptor yX12_packet.desc).map (fun d => d.parameters.length) = some 4 := by decide +kernel
theorem lw_9080 : Cond.methodLink RL 172 yL_gather ∈ gw := gw_t4 170 rfl rfl
theorem lw_9081 : Cond.static yL_gather ∈ gw := gw_t4 171 rfl rfl
theorem lw_9082 : Cond.codeWith yL_gather cL_gather 6 (some .int) [(0, 12, 15, 21), (0, 12, 19, 49), (0, 12, 23, 23)] ∈ gw := gw_t4 172 rfl rfl
theorem hdL_gather : yL_gather.cls ≠ "java/lang/invoke/MethodHandle" ∧ yL_gather.cls ≠ "java/lang/invoke/VarHandle" ∧ (parseMethodDescriptor yL_gather.desc).map (fun d => d.parameters.length) = some 5 := by decide +kernel
theorem lw_9083 : Cond.methodLink RL 174 yX12_gather ∈ gw := gw_t8 21 rfl rfl
theorem lw_9084 : Cond.instanceMethod yX12_gather ∈ gw := gw_t8 22 rfl rfl
theorem lw_9085 : Cond.selects RX12 yX12_gather yX12_gather ∈ gw := gw_t8 23 rfl rfl
theorem lw_9086 : Cond.code yX12_gather cX12_gather 4 (some .int) ∈ gw := gw_t8 24 rfl rfl
theorem hdX12_gather : yX12_gather.cls = RX12 ∧ yX12_gather.cls ≠ "java/lang/invoke/MethodHandle" ∧ yX12_gather.cls ≠ "java/lang/invoke/VarHandle" ∧ (parseMethodDescriptor yX12_gather.desc).map (fun d => d.parameters.length) = some 3 := by decide +kernel
theorem lw_9087 : Cond.methodLink RL 175 yL_ticks ∈ gw := gw_t4 196 rfl rfl
theorem lw_9088 : Cond.static yL_ticks ∈ gw := gw_t4 197 rfl rfl
theorem lw_9089 : Cond.codeWith yL_ticks cL_ticks 4 (some .int) [(0, 9, 12, 13)] ∈ gw := gw_t4 198 rfl rfl
theorem hdL_ticks : yL_ticks.cls ≠ "java/lang/invoke/MethodHandle" ∧ yL_ticks.cls ≠ "java/lang/invoke/VarHandle" ∧ (parseMethodDescriptor yL_ticks.desc).map (fun d => d.parameters.length) = some 3 := by decide +kernel
theorem lw_9090 : Cond.methodLink RL 177 yX12_ticks ∈ gw := gw_t7 35 rfl rfl
theorem lw_9091 : Cond.instanceMethod yX12_ticks ∈ gw := gw_t7 36 rfl rfl
theorem lw_9092 : Cond.selects RX12 yX12_ticks yX12_ticks ∈ gw := gw_t7 37 rfl rfl
theorem lw_9093 : Cond.code yX12_ticks cX12_ticks 4 (some .int) ∈ gw := gw_t7 38 rfl rfl
theorem hdX12_ticks : yX12_ticks.cls = RX12 ∧ yX12_ticks.cls ≠ "java/lang/invoke/MethodHandle" ∧ yX12_ticks.cls ≠ "java/lang/invoke/VarHandle" ∧ (parseMethodDescriptor yX12_ticks.desc).map (fun d => d.parameters.length) = some 1 := by decide +kernel
theorem lw_9094 : Cond.methodLink RL 178 yL_send ∈ gw := gw_t5 129 rfl rfl
theorem lw_9095 : Cond.static yL_send ∈ gw := gw_t5 130 rfl rfl
theorem lw_9096 : Cond.codeWith yL_send cL_send 5 (some .int) [(0, 10, 13, 21), (0, 10, 17, 49)] ∈ gw := gw_t5 131 rfl rfl
theorem hdL_send : yL_send.cls ≠ "java/lang/invoke/MethodHandle" ∧ yL_send.cls ≠ "java/lang/invoke/VarHandle" ∧ (parseMethodDescriptor yL_send.desc).map (fun d => d.parameters.length) = some 4 := by decide +kernel
theorem lw_9097 : Cond.methodLink RL 180 yX12_send ∈ gw := gw_t7 192 rfl rfl
theorem lw_9098 : Cond.instanceMethod yX12_send ∈ gw := gw_t7 193 rfl rfl
theorem lw_9099 : Cond.selects RX12 yX12_send yX12_send ∈ gw := gw_t7 194 rfl rfl
theorem lw_9100 : Cond.code yX12_send cX12_send 3 (some .int) ∈ gw := gw_t7 195 rfl rfl
theorem hdX12_send : yX12_send.cls = RX12 ∧ yX12_send.cls ≠ "java/lang/invoke/MethodHandle" ∧ yX12_send.cls ≠ "java/lang/invoke/VarHandle" ∧ (parseMethodDescriptor yX12_send.desc).map (fun d => d.parameters.length) = some 2 := by decide +kernel
theorem dl_567 : decode code 567 = .ok (.aload_n 1, 1) := by decide +kernel
theorem dl_568 : decode code 568 = .ok (.aload_n 0, 1) := by decide +kernel
theorem dl_569 : decode code 569 = .ok (.iload 4, 2) := by decide +kernel
theorem dl_571 : decode code 571 = .ok (.iconst 1, 1) := by decide +kernel
theorem dl_572 : decode code 572 = .ok (.iadd, 1) := by decide +kernel
theorem dl_573 : decode code 573 = .ok (.iaload, 1) := by decide +kernel
theorem dl_574 : decode code 574 = .ok (.aload_n 0, 1) := by decide +kernel
theorem dl_575 : decode code 575 = .ok (.iload 4, 2) := by decide +kernel
theorem dl_577 : decode code 577 = .ok (.iconst 2, 1) := by decide +kernel
theorem dl_578 : decode code 578 = .ok (.iadd, 1) := by decide +kernel
theorem dl_579 : decode code 579 = .ok (.iaload, 1) := by decide +kernel
theorem dl_580 : decode code 580 = .ok (.aload_n 0, 1) := by decide +kernel
theorem dl_581 : decode code 581 = .ok (.iload 4, 2) := by decide +kernel
theorem dl_583 : decode code 583 = .ok (.iconst 3, 1) := by decide +kernel
theorem dl_584 : decode code 584 = .ok (.iadd, 1) := by decide +kernel
theorem dl_585 : decode code 585 = .ok (.iaload, 1) := by decide +kernel
theorem dl_586 : decode code 586 = .ok (.aload_n 3, 1) := by decide +kernel
theorem dl_587 : decode code 587 = .ok (.invokestatic 158, 3) := by decide +kernel
theorem dl_590 : decode code 590 = .ok (.istore 5, 2) := by decide +kernel
theorem dl_592 : decode code 592 = .ok (.aload_n 2, 1) := by decide +kernel
theorem dl_593 : decode code 593 = .ok (.aload_n 0, 1) := by decide +kernel
theorem dl_594 : decode code 594 = .ok (.iload 4, 2) := by decide +kernel
theorem dl_596 : decode code 596 = .ok (.iconst 1, 1) := by decide +kernel
theorem dl_597 : decode code 597 = .ok (.iadd, 1) := by decide +kernel
theorem dl_598 : decode code 598 = .ok (.iaload, 1) := by decide +kernel
theorem dl_599 : decode code 599 = .ok (.aload_n 0, 1) := by decide +kernel
theorem dl_600 : decode code 600 = .ok (.iload 4, 2) := by decide +kernel
theorem dl_602 : decode code 602 = .ok (.iconst 2, 1) := by decide +kernel
theorem dl_603 : decode code 603 = .ok (.iadd, 1) := by decide +kernel
theorem dl_604 : decode code 604 = .ok (.iaload, 1) := by decide +kernel
theorem dl_605 : decode code 605 = .ok (.aload_n 0, 1) := by decide +kernel
theorem dl_606 : decode code 606 = .ok (.iload 4, 2) := by decide +kernel
theorem dl_608 : decode code 608 = .ok (.iconst 3, 1) := by decide +kernel
theorem dl_609 : decode code 609 = .ok (.iadd, 1) := by decide +kernel
theorem dl_610 : decode code 610 = .ok (.iaload, 1) := by decide +kernel
theorem dl_611 : decode code 611 = .ok (.invokevirtual 161, 3) := by decide +kernel
theorem dl_614 : decode code 614 = .ok (.istore 6, 2) := by decide +kernel
theorem dl_616 : decode code 616 = .ok (.aload_n 2, 1) := by decide +kernel
theorem dl_617 : decode code 617 = .ok (.invokevirtual 140, 3) := by decide +kernel
theorem dl_620 : decode code 620 = .ok (.iload 5, 2) := by decide +kernel
theorem dl_622 : decode code 622 = .ok (.if_icmp .eq 5, 3) := by decide +kernel
theorem dl_627 : decode code 627 = .ok (.iload 5, 2) := by decide +kernel
theorem dl_629 : decode code 629 = .ok (.ifCond .ne 15, 3) := by decide +kernel
theorem dl_632 : decode code 632 = .ok (.aload_n 3, 1) := by decide +kernel
theorem dl_633 : decode code 633 = .ok (.iconst 0, 1) := by decide +kernel
theorem dl_634 : decode code 634 = .ok (.laload, 1) := by decide +kernel
theorem dl_635 : decode code 635 = .ok (.iload 6, 2) := by decide +kernel
theorem dl_637 : decode code 637 = .ok (.i2l, 1) := by decide +kernel
theorem dl_638 : decode code 638 = .ok (.lcmp, 1) := by decide +kernel
theorem dl_639 : decode code 639 = .ok (.ifCond .eq 5, 3) := by decide +kernel
theorem dl_644 : decode code 644 = .ok (.goto 1882, 3) := by decide +kernel
theorem dl_647 : decode code 647 = .ok (.aload_n 1, 1) := by decide +kernel
theorem dl_648 : decode code 648 = .ok (.aload_n 0, 1) := by decide +kernel
theorem dl_649 : decode code 649 = .ok (.iload 4, 2) := by decide +kernel
theorem dl_651 : decode code 651 = .ok (.iconst 1, 1) := by decide +kernel
theorem dl_652 : decode code 652 = .ok (.iadd, 1) := by decide +kernel
theorem dl_653 : decode code 653 = .ok (.iaload, 1) := by decide +kernel
theorem dl_654 : decode code 654 = .ok (.aload_n 0, 1) := by decide +kernel
theorem dl_655 : decode code 655 = .ok (.iload 4, 2) := by decide +kernel
theorem dl_657 : decode code 657 = .ok (.iconst 2, 1) := by decide +kernel
theorem dl_658 : decode code 658 = .ok (.iadd, 1) := by decide +kernel
theorem dl_659 : decode code 659 = .ok (.iaload, 1) := by decide +kernel
theorem dl_660 : decode code 660 = .ok (.aload_n 3, 1) := by decide +kernel
theorem dl_661 : decode code 661 = .ok (.invokestatic 162, 3) := by decide +kernel
theorem dl_664 : decode code 664 = .ok (.istore 5, 2) := by decide +kernel
theorem dl_666 : decode code 666 = .ok (.aload_n 2, 1) := by decide +kernel
theorem dl_667 : decode code 667 = .ok (.aload_n 0, 1) := by decide +kernel
theorem dl_668 : decode code 668 = .ok (.iload 4, 2) := by decide +kernel
theorem dl_670 : decode code 670 = .ok (.iconst 1, 1) := by decide +kernel
theorem dl_671 : decode code 671 = .ok (.iadd, 1) := by decide +kernel
theorem dl_672 : decode code 672 = .ok (.iaload, 1) := by decide +kernel
theorem dl_673 : decode code 673 = .ok (.aload_n 0, 1) := by decide +kernel
theorem dl_674 : decode code 674 = .ok (.iload 4, 2) := by decide +kernel
theorem dl_676 : decode code 676 = .ok (.iconst 2, 1) := by decide +kernel
theorem dl_677 : decode code 677 = .ok (.iadd, 1) := by decide +kernel
theorem dl_678 : decode code 678 = .ok (.iaload, 1) := by decide +kernel
theorem dl_679 : decode code 679 = .ok (.invokevirtual 164, 3) := by decide +kernel
theorem dl_682 : decode code 682 = .ok (.istore 6, 2) := by decide +kernel
theorem dl_684 : decode code 684 = .ok (.aload_n 2, 1) := by decide +kernel
theorem dl_685 : decode code 685 = .ok (.invokevirtual 140, 3) := by decide +kernel
theorem dl_688 : decode code 688 = .ok (.iload 5, 2) := by decide +kernel
theorem dl_690 : decode code 690 = .ok (.if_icmp .eq 5, 3) := by decide +kernel
theorem dl_695 : decode code 695 = .ok (.iload 5, 2) := by decide +kernel
theorem dl_697 : decode code 697 = .ok (.ifCond .ne 15, 3) := by decide +kernel
theorem dl_700 : decode code 700 = .ok (.aload_n 3, 1) := by decide +kernel
theorem dl_701 : decode code 701 = .ok (.iconst 0, 1) := by decide +kernel
theorem dl_702 : decode code 702 = .ok (.laload, 1) := by decide +kernel
theorem dl_703 : decode code 703 = .ok (.iload 6, 2) := by decide +kernel
theorem dl_705 : decode code 705 = .ok (.i2l, 1) := by decide +kernel
theorem dl_706 : decode code 706 = .ok (.lcmp, 1) := by decide +kernel
theorem dl_707 : decode code 707 = .ok (.ifCond .eq 5, 3) := by decide +kernel
theorem dl_712 : decode code 712 = .ok (.goto 1814, 3) := by decide +kernel
theorem dl_715 : decode code 715 = .ok (.aload_n 1, 1) := by decide +kernel
theorem dl_716 : decode code 716 = .ok (.aload_n 0, 1) := by decide +kernel
theorem dl_717 : decode code 717 = .ok (.iload 4, 2) := by decide +kernel
theorem dl_719 : decode code 719 = .ok (.iconst 1, 1) := by decide +kernel
theorem dl_720 : decode code 720 = .ok (.iadd, 1) := by decide +kernel
theorem dl_721 : decode code 721 = .ok (.iaload, 1) := by decide +kernel
theorem dl_722 : decode code 722 = .ok (.aload_n 0, 1) := by decide +kernel
theorem dl_723 : decode code 723 = .ok (.iload 4, 2) := by decide +kernel
theorem dl_725 : decode code 725 = .ok (.iconst 2, 1) := by decide +kernel
theorem dl_726 : decode code 726 = .ok (.iadd, 1) := by decide +kernel
theorem dl_727 : decode code 727 = .ok (.iaload, 1) := by decide +kernel
theorem dl_728 : decode code 728 = .ok (.aload_n 0, 1) := by decide +kernel
theorem dl_729 : decode code 729 = .ok (.iload 4, 2) := by decide +kernel
theorem dl_731 : decode code 731 = .ok (.iconst 3, 1) := by decide +kernel
theorem dl_732 : decode code 732 = .ok (.iadd, 1) := by decide +kernel
theorem dl_733 : decode code 733 = .ok (.iaload, 1) := by decide +kernel
theorem dl_734 : decode code 734 = .ok (.aload_n 3, 1) := by decide +kernel
theorem dl_735 : decode code 735 = .ok (.invokestatic 165, 3) := by decide +kernel
theorem dl_738 : decode code 738 = .ok (.istore 5, 2) := by decide +kernel
theorem dl_740 : decode code 740 = .ok (.aload_n 2, 1) := by decide +kernel
theorem dl_741 : decode code 741 = .ok (.aload_n 0, 1) := by decide +kernel
theorem dl_742 : decode code 742 = .ok (.iload 4, 2) := by decide +kernel
theorem dl_744 : decode code 744 = .ok (.iconst 1, 1) := by decide +kernel
theorem dl_745 : decode code 745 = .ok (.iadd, 1) := by decide +kernel
theorem dl_746 : decode code 746 = .ok (.iaload, 1) := by decide +kernel
theorem dl_747 : decode code 747 = .ok (.aload_n 0, 1) := by decide +kernel
theorem dl_748 : decode code 748 = .ok (.iload 4, 2) := by decide +kernel
theorem dl_750 : decode code 750 = .ok (.iconst 2, 1) := by decide +kernel
theorem dl_751 : decode code 751 = .ok (.iadd, 1) := by decide +kernel
theorem dl_752 : decode code 752 = .ok (.iaload, 1) := by decide +kernel
theorem dl_753 : decode code 753 = .ok (.aload_n 0, 1) := by decide +kernel
theorem dl_754 : decode code 754 = .ok (.iload 4, 2) := by decide +kernel
theorem dl_756 : decode code 756 = .ok (.iconst 3, 1) := by decide +kernel
theorem dl_757 : decode code 757 = .ok (.iadd, 1) := by decide +kernel
theorem dl_758 : decode code 758 = .ok (.iaload, 1) := by decide +kernel
theorem dl_759 : decode code 759 = .ok (.invokevirtual 167, 3) := by decide +kernel
theorem dl_762 : decode code 762 = .ok (.istore 6, 2) := by decide +kernel
theorem dl_764 : decode code 764 = .ok (.aload_n 2, 1) := by decide +kernel
theorem dl_765 : decode code 765 = .ok (.invokevirtual 140, 3) := by decide +kernel
theorem dl_768 : decode code 768 = .ok (.iload 5, 2) := by decide +kernel
theorem dl_770 : decode code 770 = .ok (.if_icmp .eq 5, 3) := by decide +kernel
theorem dl_775 : decode code 775 = .ok (.iload 5, 2) := by decide +kernel
theorem dl_777 : decode code 777 = .ok (.ifCond .ne 15, 3) := by decide +kernel
theorem dl_780 : decode code 780 = .ok (.aload_n 3, 1) := by decide +kernel
theorem dl_781 : decode code 781 = .ok (.iconst 0, 1) := by decide +kernel
theorem dl_782 : decode code 782 = .ok (.laload, 1) := by decide +kernel
theorem dl_783 : decode code 783 = .ok (.iload 6, 2) := by decide +kernel
theorem dl_785 : decode code 785 = .ok (.i2l, 1) := by decide +kernel
theorem dl_786 : decode code 786 = .ok (.lcmp, 1) := by decide +kernel
theorem dl_787 : decode code 787 = .ok (.ifCond .eq 5, 3) := by decide +kernel
theorem dl_792 : decode code 792 = .ok (.goto 1734, 3) := by decide +kernel
theorem dl_795 : decode code 795 = .ok (.aload_n 1, 1) := by decide +kernel
theorem dl_796 : decode code 796 = .ok (.aload_n 0, 1) := by decide +kernel
theorem dl_797 : decode code 797 = .ok (.iload 4, 2) := by decide +kernel
theorem dl_799 : decode code 799 = .ok (.iconst 1, 1) := by decide +kernel
theorem dl_800 : decode code 800 = .ok (.iadd, 1) := by decide +kernel
theorem dl_801 : decode code 801 = .ok (.iaload, 1) := by decide +kernel
theorem dl_802 : decode code 802 = .ok (.aload_n 0, 1) := by decide +kernel
theorem dl_803 : decode code 803 = .ok (.iload 4, 2) := by decide +kernel
theorem dl_805 : decode code 805 = .ok (.iconst 2, 1) := by decide +kernel
theorem dl_806 : decode code 806 = .ok (.iadd, 1) := by decide +kernel
theorem dl_807 : decode code 807 = .ok (.iaload, 1) := by decide +kernel
theorem dl_808 : decode code 808 = .ok (.aload_n 0, 1) := by decide +kernel
theorem dl_809 : decode code 809 = .ok (.iload 4, 2) := by decide +kernel
theorem dl_811 : decode code 811 = .ok (.iconst 3, 1) := by decide +kernel
theorem dl_812 : decode code 812 = .ok (.iadd, 1) := by decide +kernel
theorem dl_813 : decode code 813 = .ok (.iaload, 1) := by decide +kernel
theorem dl_814 : decode code 814 = .ok (.aload_n 0, 1) := by decide +kernel
theorem dl_815 : decode code 815 = .ok (.iload 4, 2) := by decide +kernel
theorem dl_817 : decode code 817 = .ok (.iconst 4, 1) := by decide +kernel
theorem dl_818 : decode code 818 = .ok (.iadd, 1) := by decide +kernel
theorem dl_819 : decode code 819 = .ok (.iaload, 1) := by decide +kernel
theorem dl_820 : decode code 820 = .ok (.aload_n 3, 1) := by decide +kernel
theorem dl_821 : decode code 821 = .ok (.invokestatic 168, 3) := by decide +kernel
theorem dl_824 : decode code 824 = .ok (.istore 5, 2) := by decide +kernel
theorem dl_826 : decode code 826 = .ok (.aload_n 2, 1) := by decide +kernel
theorem dl_827 : decode code 827 = .ok (.aload_n 0, 1) := by decide +kernel
theorem dl_828 : decode code 828 = .ok (.iload 4, 2) := by decide +kernel
theorem dl_830 : decode code 830 = .ok (.iconst 1, 1) := by decide +kernel
theorem dl_831 : decode code 831 = .ok (.iadd, 1) := by decide +kernel
theorem dl_832 : decode code 832 = .ok (.iaload, 1) := by decide +kernel
theorem dl_833 : decode code 833 = .ok (.aload_n 0, 1) := by decide +kernel
theorem dl_834 : decode code 834 = .ok (.iload 4, 2) := by decide +kernel
theorem dl_836 : decode code 836 = .ok (.iconst 2, 1) := by decide +kernel
theorem dl_837 : decode code 837 = .ok (.iadd, 1) := by decide +kernel
theorem dl_838 : decode code 838 = .ok (.iaload, 1) := by decide +kernel
theorem dl_839 : decode code 839 = .ok (.aload_n 0, 1) := by decide +kernel
theorem dl_840 : decode code 840 = .ok (.iload 4, 2) := by decide +kernel
theorem dl_842 : decode code 842 = .ok (.iconst 3, 1) := by decide +kernel
theorem dl_843 : decode code 843 = .ok (.iadd, 1) := by decide +kernel
theorem dl_844 : decode code 844 = .ok (.iaload, 1) := by decide +kernel
theorem dl_845 : decode code 845 = .ok (.aload_n 0, 1) := by decide +kernel
theorem dl_846 : decode code 846 = .ok (.iload 4, 2) := by decide +kernel
theorem dl_848 : decode code 848 = .ok (.iconst 4, 1) := by decide +kernel
theorem dl_849 : decode code 849 = .ok (.iadd, 1) := by decide +kernel
theorem dl_850 : decode code 850 = .ok (.iaload, 1) := by decide +kernel
theorem dl_851 : decode code 851 = .ok (.invokevirtual 171, 3) := by decide +kernel
theorem dl_854 : decode code 854 = .ok (.istore 6, 2) := by decide +kernel
theorem dl_856 : decode code 856 = .ok (.aload_n 2, 1) := by decide +kernel
theorem dl_857 : decode code 857 = .ok (.invokevirtual 140, 3) := by decide +kernel
theorem dl_860 : decode code 860 = .ok (.iload 5, 2) := by decide +kernel
theorem dl_862 : decode code 862 = .ok (.if_icmp .eq 5, 3) := by decide +kernel
theorem dl_867 : decode code 867 = .ok (.iload 5, 2) := by decide +kernel
theorem dl_869 : decode code 869 = .ok (.ifCond .ne 15, 3) := by decide +kernel
theorem dl_872 : decode code 872 = .ok (.aload_n 3, 1) := by decide +kernel
theorem dl_873 : decode code 873 = .ok (.iconst 0, 1) := by decide +kernel
theorem dl_874 : decode code 874 = .ok (.laload, 1) := by decide +kernel
theorem dl_875 : decode code 875 = .ok (.iload 6, 2) := by decide +kernel
theorem dl_877 : decode code 877 = .ok (.i2l, 1) := by decide +kernel
theorem dl_878 : decode code 878 = .ok (.lcmp, 1) := by decide +kernel
theorem dl_879 : decode code 879 = .ok (.ifCond .eq 5, 3) := by decide +kernel
theorem dl_884 : decode code 884 = .ok (.goto 1642, 3) := by decide +kernel
theorem dl_887 : decode code 887 = .ok (.aload_n 1, 1) := by decide +kernel
theorem dl_888 : decode code 888 = .ok (.aload_n 0, 1) := by decide +kernel
theorem dl_889 : decode code 889 = .ok (.iload 4, 2) := by decide +kernel
theorem dl_891 : decode code 891 = .ok (.iconst 1, 1) := by decide +kernel
theorem dl_892 : decode code 892 = .ok (.iadd, 1) := by decide +kernel
theorem dl_893 : decode code 893 = .ok (.iaload, 1) := by decide +kernel
theorem dl_894 : decode code 894 = .ok (.aload_n 0, 1) := by decide +kernel
theorem dl_895 : decode code 895 = .ok (.iload 4, 2) := by decide +kernel
theorem dl_897 : decode code 897 = .ok (.iconst 2, 1) := by decide +kernel
theorem dl_898 : decode code 898 = .ok (.iadd, 1) := by decide +kernel
theorem dl_899 : decode code 899 = .ok (.iaload, 1) := by decide +kernel
theorem dl_900 : decode code 900 = .ok (.aload_n 0, 1) := by decide +kernel
theorem dl_901 : decode code 901 = .ok (.iload 4, 2) := by decide +kernel
theorem dl_903 : decode code 903 = .ok (.iconst 3, 1) := by decide +kernel
theorem dl_904 : decode code 904 = .ok (.iadd, 1) := by decide +kernel
theorem dl_905 : decode code 905 = .ok (.iaload, 1) := by decide +kernel
theorem dl_906 : decode code 906 = .ok (.aload_n 3, 1) := by decide +kernel
theorem dl_907 : decode code 907 = .ok (.invokestatic 172, 3) := by decide +kernel
theorem dl_910 : decode code 910 = .ok (.istore 5, 2) := by decide +kernel
theorem dl_912 : decode code 912 = .ok (.aload_n 2, 1) := by decide +kernel
theorem dl_913 : decode code 913 = .ok (.aload_n 0, 1) := by decide +kernel
theorem dl_914 : decode code 914 = .ok (.iload 4, 2) := by decide +kernel
theorem dl_916 : decode code 916 = .ok (.iconst 1, 1) := by decide +kernel
theorem dl_917 : decode code 917 = .ok (.iadd, 1) := by decide +kernel
theorem dl_918 : decode code 918 = .ok (.iaload, 1) := by decide +kernel
theorem dl_919 : decode code 919 = .ok (.aload_n 0, 1) := by decide +kernel
theorem dl_920 : decode code 920 = .ok (.iload 4, 2) := by decide +kernel
theorem dl_922 : decode code 922 = .ok (.iconst 2, 1) := by decide +kernel
theorem dl_923 : decode code 923 = .ok (.iadd, 1) := by decide +kernel
theorem dl_924 : decode code 924 = .ok (.iaload, 1) := by decide +kernel
theorem dl_925 : decode code 925 = .ok (.aload_n 0, 1) := by decide +kernel
theorem dl_926 : decode code 926 = .ok (.iload 4, 2) := by decide +kernel
theorem dl_928 : decode code 928 = .ok (.iconst 3, 1) := by decide +kernel
theorem dl_929 : decode code 929 = .ok (.iadd, 1) := by decide +kernel
theorem dl_930 : decode code 930 = .ok (.iaload, 1) := by decide +kernel
theorem dl_931 : decode code 931 = .ok (.invokevirtual 174, 3) := by decide +kernel
theorem dl_934 : decode code 934 = .ok (.istore 6, 2) := by decide +kernel
theorem dl_936 : decode code 936 = .ok (.aload_n 2, 1) := by decide +kernel
theorem dl_937 : decode code 937 = .ok (.invokevirtual 140, 3) := by decide +kernel
theorem dl_940 : decode code 940 = .ok (.iload 5, 2) := by decide +kernel
theorem dl_942 : decode code 942 = .ok (.if_icmp .eq 5, 3) := by decide +kernel
theorem dl_947 : decode code 947 = .ok (.iload 5, 2) := by decide +kernel
theorem dl_949 : decode code 949 = .ok (.ifCond .ne 15, 3) := by decide +kernel
theorem dl_952 : decode code 952 = .ok (.aload_n 3, 1) := by decide +kernel
theorem dl_953 : decode code 953 = .ok (.iconst 0, 1) := by decide +kernel
theorem dl_954 : decode code 954 = .ok (.laload, 1) := by decide +kernel
theorem dl_955 : decode code 955 = .ok (.iload 6, 2) := by decide +kernel
theorem dl_957 : decode code 957 = .ok (.i2l, 1) := by decide +kernel
theorem dl_958 : decode code 958 = .ok (.lcmp, 1) := by decide +kernel
theorem dl_959 : decode code 959 = .ok (.ifCond .eq 5, 3) := by decide +kernel
theorem dl_964 : decode code 964 = .ok (.goto 1562, 3) := by decide +kernel
theorem dl_967 : decode code 967 = .ok (.aload_n 1, 1) := by decide +kernel
theorem dl_968 : decode code 968 = .ok (.aload_n 0, 1) := by decide +kernel
theorem dl_969 : decode code 969 = .ok (.iload 4, 2) := by decide +kernel
theorem dl_971 : decode code 971 = .ok (.iconst 1, 1) := by decide +kernel
theorem dl_972 : decode code 972 = .ok (.iadd, 1) := by decide +kernel
theorem dl_973 : decode code 973 = .ok (.iaload, 1) := by decide +kernel
theorem dl_974 : decode code 974 = .ok (.aload_n 3, 1) := by decide +kernel
theorem dl_975 : decode code 975 = .ok (.invokestatic 175, 3) := by decide +kernel
theorem dl_978 : decode code 978 = .ok (.istore 5, 2) := by decide +kernel
theorem dl_980 : decode code 980 = .ok (.aload_n 2, 1) := by decide +kernel
theorem dl_981 : decode code 981 = .ok (.aload_n 0, 1) := by decide +kernel
theorem dl_982 : decode code 982 = .ok (.iload 4, 2) := by decide +kernel
theorem dl_984 : decode code 984 = .ok (.iconst 1, 1) := by decide +kernel
theorem dl_985 : decode code 985 = .ok (.iadd, 1) := by decide +kernel
theorem dl_986 : decode code 986 = .ok (.iaload, 1) := by decide +kernel
theorem dl_987 : decode code 987 = .ok (.invokevirtual 177, 3) := by decide +kernel
theorem dl_990 : decode code 990 = .ok (.istore 6, 2) := by decide +kernel
theorem dl_992 : decode code 992 = .ok (.aload_n 2, 1) := by decide +kernel
theorem dl_993 : decode code 993 = .ok (.invokevirtual 140, 3) := by decide +kernel
theorem dl_996 : decode code 996 = .ok (.iload 5, 2) := by decide +kernel
theorem dl_998 : decode code 998 = .ok (.if_icmp .eq 5, 3) := by decide +kernel
theorem dl_1003 : decode code 1003 = .ok (.iload 5, 2) := by decide +kernel
theorem dl_1005 : decode code 1005 = .ok (.ifCond .ne 15, 3) := by decide +kernel
theorem dl_1008 : decode code 1008 = .ok (.aload_n 3, 1) := by decide +kernel
theorem dl_1009 : decode code 1009 = .ok (.iconst 0, 1) := by decide +kernel
theorem dl_1010 : decode code 1010 = .ok (.laload, 1) := by decide +kernel
theorem dl_1011 : decode code 1011 = .ok (.iload 6, 2) := by decide +kernel
theorem dl_1013 : decode code 1013 = .ok (.i2l, 1) := by decide +kernel
theorem dl_1014 : decode code 1014 = .ok (.lcmp, 1) := by decide +kernel
theorem dl_1015 : decode code 1015 = .ok (.ifCond .eq 5, 3) := by decide +kernel
theorem dl_1020 : decode code 1020 = .ok (.goto 1506, 3) := by decide +kernel
theorem dl_1023 : decode code 1023 = .ok (.aload_n 1, 1) := by decide +kernel
theorem dl_1024 : decode code 1024 = .ok (.aload_n 0, 1) := by decide +kernel
theorem dl_1025 : decode code 1025 = .ok (.iload 4, 2) := by decide +kernel
theorem dl_1027 : decode code 1027 = .ok (.iconst 1, 1) := by decide +kernel
theorem dl_1028 : decode code 1028 = .ok (.iadd, 1) := by decide +kernel
theorem dl_1029 : decode code 1029 = .ok (.iaload, 1) := by decide +kernel
theorem dl_1030 : decode code 1030 = .ok (.aload_n 0, 1) := by decide +kernel
theorem dl_1031 : decode code 1031 = .ok (.iload 4, 2) := by decide +kernel
theorem dl_1033 : decode code 1033 = .ok (.iconst 2, 1) := by decide +kernel
theorem dl_1034 : decode code 1034 = .ok (.iadd, 1) := by decide +kernel
theorem dl_1035 : decode code 1035 = .ok (.iaload, 1) := by decide +kernel
theorem dl_1036 : decode code 1036 = .ok (.aload_n 3, 1) := by decide +kernel
theorem dl_1037 : decode code 1037 = .ok (.invokestatic 178, 3) := by decide +kernel
theorem dl_1040 : decode code 1040 = .ok (.istore 5, 2) := by decide +kernel
theorem dl_1042 : decode code 1042 = .ok (.aload_n 2, 1) := by decide +kernel
theorem dl_1043 : decode code 1043 = .ok (.aload_n 0, 1) := by decide +kernel
theorem dl_1044 : decode code 1044 = .ok (.iload 4, 2) := by decide +kernel
theorem dl_1046 : decode code 1046 = .ok (.iconst 1, 1) := by decide +kernel
theorem dl_1047 : decode code 1047 = .ok (.iadd, 1) := by decide +kernel
theorem dl_1048 : decode code 1048 = .ok (.iaload, 1) := by decide +kernel
theorem dl_1049 : decode code 1049 = .ok (.aload_n 0, 1) := by decide +kernel
theorem dl_1050 : decode code 1050 = .ok (.iload 4, 2) := by decide +kernel
theorem dl_1052 : decode code 1052 = .ok (.iconst 2, 1) := by decide +kernel
theorem dl_1053 : decode code 1053 = .ok (.iadd, 1) := by decide +kernel
theorem dl_1054 : decode code 1054 = .ok (.iaload, 1) := by decide +kernel
theorem dl_1055 : decode code 1055 = .ok (.invokevirtual 180, 3) := by decide +kernel
theorem dl_1058 : decode code 1058 = .ok (.istore 6, 2) := by decide +kernel
theorem dl_1060 : decode code 1060 = .ok (.aload_n 2, 1) := by decide +kernel
theorem dl_1061 : decode code 1061 = .ok (.invokevirtual 140, 3) := by decide +kernel
theorem dl_1064 : decode code 1064 = .ok (.iload 5, 2) := by decide +kernel
theorem dl_1066 : decode code 1066 = .ok (.if_icmp .eq 5, 3) := by decide +kernel
theorem dl_1071 : decode code 1071 = .ok (.iload 5, 2) := by decide +kernel
theorem dl_1073 : decode code 1073 = .ok (.ifCond .ne 15, 3) := by decide +kernel
theorem dl_1076 : decode code 1076 = .ok (.aload_n 3, 1) := by decide +kernel
theorem dl_1077 : decode code 1077 = .ok (.iconst 0, 1) := by decide +kernel
theorem dl_1078 : decode code 1078 = .ok (.laload, 1) := by decide +kernel
theorem dl_1079 : decode code 1079 = .ok (.iload 6, 2) := by decide +kernel
theorem dl_1081 : decode code 1081 = .ok (.i2l, 1) := by decide +kernel
theorem dl_1082 : decode code 1082 = .ok (.lcmp, 1) := by decide +kernel
theorem dl_1083 : decode code 1083 = .ok (.ifCond .eq 5, 3) := by decide +kernel
theorem dl_1088 : decode code 1088 = .ok (.goto 1438, 3) := by decide +kernel
section LX
variable {p : Program} {l : Launch} {e : Env} {s : State} {m : MethodId} {below : List Frame} {meth : Method} {c0 : Code} {D : va_G} {cI cB cL : ClassId} {ka kv : Nat → Nat} {fv : Value} {b L x o i c : Nat} {xs : Nat → Int32} {am : Nat → Nat}
theorem lc_has (LC : lawC l D cI cB cL ka kv fv p s m c0 meth b L xs) (hi : i + 5 < L) (hc : c < 512) (KE : lawAt l D cI cB cL p e s m below meth c0 b x o am i 2526 (c + 1)) : lawAt l D cI cB cL p e s m below meth c0 b x o am i 567 c := by
  intro lay t μ f H locs ls hxx hI S hl
  subst hxx
  have LC' := LC
  obtain ⟨C, Kx, Np, hX, hbl, hst, hL⟩ := LC
  have hx := C.1
  have hb := C.2.1
  have hbA : ¬ (fun q => s.heap.size ≤ q) b := Nat.not_le.mpr hbl
  obtain ⟨r, μ', hm, mc, ms, g, g1, g2, g3, hop⟩ := op_has (l := l) (D := D) (cI := cI) (cB := cB) (cL := cL) (ka := ka) (kv := kv) (fv := fv) hst hI (xs (i + 1)) (xs (i + 2)) (xs (i + 3))
  have hM := hop lay
  refine lv_aload_n hx hb dl_567 rfl (lv_at hl 1 rfl) ?_
  refine g_arg (j := 1) hx hb hX hbl hbA S.2.2 hL (by omega) (lv_at hl 0 rfl) (lv_at hl 4 rfl) rfl dl_568 dl_569 dl_571 dl_572 dl_573 ?_
  refine g_arg (j := 2) hx hb hX hbl hbA S.2.2 hL (by omega) (lv_at hl 0 rfl) (lv_at hl 4 rfl) rfl dl_574 dl_575 dl_577 dl_578 dl_579 ?_
  refine g_arg (j := 3) hx hb hX hbl hbA S.2.2 hL (by omega) (lv_at hl 0 rfl) (lv_at hl 4 rfl) rfl dl_580 dl_581 dl_583 dl_584 dl_585 ?_
  refine lv_aload_n hx hb dl_586 rfl (lv_at hl 3 rfl) ?_
  refine h_callSW (As := [.ref (lay.1 36), .int (xs (i + 1)), .int (xs (i + 2)), .int (xs (i + 3)), .ref o]) (na := 5) C Kx Np S (wl_has l D cI cB cL ka kv fv (lay.1 36) o f (xs (i + 1)) (xs (i + 2)) (xs (i + 3)) (lpX_obj cI cB lay t) hM (fun E X' h => by have h := h.1; simpa using h)) lw_9052 lw_9053 lth_6 lw_9054 hdL_has ⟨Nat.le_of_ble_eq_true rfl, Nat.le_of_ble_eq_true rfl⟩ rfl hl.1 ⟨(by show _ ≤ 601024; omega), (by show _ ≤ 7293034; omega)⟩ (Nat.le_of_ble_eq_true rfl) dl_587 rfl (fun k X' H locs hRW S => ?_)
  obtain ⟨lay', t', g', rfl, h36, ht, hI', hth, hg⟩ := rW_key hRW kcB
  refine W.widen (k := 1000 + 4 * (c + 1) + tot t') (n := 150000 + 24 * (c + 1) + 2 * tot t') (by omega) (by omega) ?_
  have S := g_comm S
  refine lv_istore (lv' := [(5, .int k), (0, .ref b), (1, .ref (lay.1 36)), (2, .ref (am 0)), (3, .ref o), (4, .int (nI i))]) hx hb dl_590 hl (by decide) rfl (fun ls hl => ?_)
  refine lv_aload_n hx hb dl_592 rfl (lv_at hl 3 rfl) ?_
  refine g_arg (j := 1) hx hb hX hbl hbA S.2.2 hL (by omega) (lv_at hl 1 rfl) (lv_at hl 5 rfl) rfl dl_593 dl_594 dl_596 dl_597 dl_598 ?_
  refine g_arg (j := 2) hx hb hX hbl hbA S.2.2 hL (by omega) (lv_at hl 1 rfl) (lv_at hl 5 rfl) rfl dl_599 dl_600 dl_602 dl_603 dl_604 ?_
  refine g_arg (j := 3) hx hb hX hbl hbA S.2.2 hL (by omega) (lv_at hl 1 rfl) (lv_at hl 5 rfl) rfl dl_605 dl_606 dl_608 dl_609 dl_610 ?_
  refine h_callVi (As := [.int (xs (i + 1)), .int (xs (i + 2)), .int (xs (i + 3))]) (na := 3) C Kx S (wM_obj cI cB am μ) rfl ((ct_X12_has l D cI cB cL am (xs (i + 1)) (xs (i + 2)) (xs (i + 3)) μ hm).toH) lw_9055 lw_9056 lw_9057 mw_5 lw_9058 hdX12_has ⟨Nat.le_of_ble_eq_true rfl, Nat.le_of_ble_eq_true rfl⟩ rfl hl.1 ⟨(by show _ ≤ 601024; omega), (by show _ ≤ 7293034; omega)⟩ (Nat.le_of_ble_eq_true rfl) dl_611 rfl (fun r2 X' H locs hRI S => ?_)
  obtain ⟨rfl, rfl⟩ := hRI
  exact law_tail LC' hc KE h36 hI' hth hg hl S dl_614 dl_616 dl_617 dl_620 dl_622 dl_627 dl_629 dl_632 dl_633 dl_634 dl_635 dl_637 dl_638 dl_639 dl_644 (by decide)
theorem lc_delivered (LC : lawC l D cI cB cL ka kv fv p s m c0 meth b L xs) (hi : i + 5 < L) (hc : c < 512) (KE : lawAt l D cI cB cL p e s m below meth c0 b x o am i 2526 (c + 1)) : lawAt l D cI cB cL p e s m below meth c0 b x o am i 647 c := by
  intro lay t μ f H locs ls hxx hI S hl
  subst hxx
  have LC' := LC
  obtain ⟨C, Kx, Np, hX, hbl, hst, hL⟩ := LC
  have hx := C.1
  have hb := C.2.1
  have hbA : ¬ (fun q => s.heap.size ≤ q) b := Nat.not_le.mpr hbl
  obtain ⟨r, μ', hm, mc, ms, g, g1, g2, g3, hop⟩ := op_delivered (l := l) (D := D) (cI := cI) (cB := cB) (cL := cL) (ka := ka) (kv := kv) (fv := fv) hst hI (xs (i + 1)) (xs (i + 2))
  have hM := hop lay
  refine lv_aload_n hx hb dl_647 rfl (lv_at hl 1 rfl) ?_
  refine g_arg (j := 1) hx hb hX hbl hbA S.2.2 hL (by omega) (lv_at hl 0 rfl) (lv_at hl 4 rfl) rfl dl_648 dl_649 dl_651 dl_652 dl_653 ?_
  refine g_arg (j := 2) hx hb hX hbl hbA S.2.2 hL (by omega) (lv_at hl 0 rfl) (lv_at hl 4 rfl) rfl dl_654 dl_655 dl_657 dl_658 dl_659 ?_
  refine lv_aload_n hx hb dl_660 rfl (lv_at hl 3 rfl) ?_
  refine h_callSW (As := [.ref (lay.1 36), .int (xs (i + 1)), .int (xs (i + 2)), .ref o]) (na := 4) C Kx Np S (wl_delivered l D cI cB cL ka kv fv (lay.1 36) o f (xs (i + 1)) (xs (i + 2)) (lpX_obj cI cB lay t) hM (fun E X' h => by have h := h.1; simpa using h)) lw_9059 lw_9060 lth_6 lw_9061 hdL_delivered ⟨Nat.le_of_ble_eq_true rfl, Nat.le_of_ble_eq_true rfl⟩ rfl hl.1 ⟨(by show _ ≤ 601024; omega), (by show _ ≤ 7293034; omega)⟩ (Nat.le_of_ble_eq_true rfl) dl_661 rfl (fun k X' H locs hRW S => ?_)
  obtain ⟨lay', t', g', rfl, h36, ht, hI', hth, hg⟩ := rW_key hRW kcA
  refine W.widen (k := 1000 + 4 * (c + 1) + tot t') (n := 150000 + 24 * (c + 1) + 2 * tot t') (by omega) (by omega) ?_
  have S := g_comm S
  refine lv_istore (lv' := [(5, .int k), (0, .ref b), (1, .ref (lay.1 36)), (2, .ref (am 0)), (3, .ref o), (4, .int (nI i))]) hx hb dl_664 hl (by decide) rfl (fun ls hl => ?_)
  refine lv_aload_n hx hb dl_666 rfl (lv_at hl 3 rfl) ?_
  refine g_arg (j := 1) hx hb hX hbl hbA S.2.2 hL (by omega) (lv_at hl 1 rfl) (lv_at hl 5 rfl) rfl dl_667 dl_668 dl_670 dl_671 dl_672 ?_
  refine g_arg (j := 2) hx hb hX hbl hbA S.2.2 hL (by omega) (lv_at hl 1 rfl) (lv_at hl 5 rfl) rfl dl_673 dl_674 dl_676 dl_677 dl_678 ?_
  refine h_callVi (As := [.int (xs (i + 1)), .int (xs (i + 2))]) (na := 2) C Kx S (wM_obj cI cB am μ) rfl ((ct_X12_delivered l D cI cB cL am (xs (i + 1)) (xs (i + 2)) μ hm).toH) lw_9062 lw_9063 lw_9064 mw_5 lw_9065 hdX12_delivered ⟨Nat.le_of_ble_eq_true rfl, Nat.le_of_ble_eq_true rfl⟩ rfl hl.1 ⟨(by show _ ≤ 601024; omega), (by show _ ≤ 7293034; omega)⟩ (Nat.le_of_ble_eq_true rfl) dl_679 rfl (fun r2 X' H locs hRI S => ?_)
  obtain ⟨rfl, rfl⟩ := hRI
  exact law_tail LC' hc KE h36 hI' hth hg hl S dl_682 dl_684 dl_685 dl_688 dl_690 dl_695 dl_697 dl_700 dl_701 dl_702 dl_703 dl_705 dl_706 dl_707 dl_712 (by decide)
theorem lc_channel (LC : lawC l D cI cB cL ka kv fv p s m c0 meth b L xs) (hi : i + 5 < L) (hc : c < 512) (KE : lawAt l D cI cB cL p e s m below meth c0 b x o am i 2526 (c + 1)) : lawAt l D cI cB cL p e s m below meth c0 b x o am i 715 c := by
  intro lay t μ f H locs ls hxx hI S hl
  subst hxx
  have LC' := LC
  obtain ⟨C, Kx, Np, hX, hbl, hst, hL⟩ := LC
  have hx := C.1
  have hb := C.2.1
  have hbA : ¬ (fun q => s.heap.size ≤ q) b := Nat.not_le.mpr hbl
  obtain ⟨r, μ', hm, mc, ms, g, g1, g2, g3, hop⟩ := op_channel (l := l) (D := D) (cI := cI) (cB := cB) (cL := cL) (ka := ka) (kv := kv) (fv := fv) hst hI (xs (i + 1)) (xs (i + 2)) (xs (i + 3))
  have hM := hop lay
  refine lv_aload_n hx hb dl_715 rfl (lv_at hl 1 rfl) ?_
  refine g_arg (j := 1) hx hb hX hbl hbA S.2.2 hL (by omega) (lv_at hl 0 rfl) (lv_at hl 4 rfl) rfl dl_716 dl_717 dl_719 dl_720 dl_721 ?_
  refine g_arg (j := 2) hx hb hX hbl hbA S.2.2 hL (by omega) (lv_at hl 0 rfl) (lv_at hl 4 rfl) rfl dl_722 dl_723 dl_725 dl_726 dl_727 ?_
  refine g_arg (j := 3) hx hb hX hbl hbA S.2.2 hL (by omega) (lv_at hl 0 rfl) (lv_at hl 4 rfl) rfl dl_728 dl_729 dl_731 dl_732 dl_733 ?_
  refine lv_aload_n hx hb dl_734 rfl (lv_at hl 3 rfl) ?_
  refine h_callSW (As := [.ref (lay.1 36), .int (xs (i + 1)), .int (xs (i + 2)), .int (xs (i + 3)), .ref o]) (na := 5) C Kx Np S (wl_channel l D cI cB cL ka kv fv (lay.1 36) o f (xs (i + 1)) (xs (i + 2)) (xs (i + 3)) (lpX_obj cI cB lay t) hM (fun E X' h => by have h := h.1; simpa using h)) lw_9066 lw_9067 lth_6 lw_9068 hdL_channel ⟨Nat.le_of_ble_eq_true rfl, Nat.le_of_ble_eq_true rfl⟩ rfl hl.1 ⟨(by show _ ≤ 601024; omega), (by show _ ≤ 7293034; omega)⟩ (Nat.le_of_ble_eq_true rfl) dl_735 rfl (fun k X' H locs hRW S => ?_)
  obtain ⟨lay', t', g', rfl, h36, ht, hI', hth, hg⟩ := rW_key hRW kcB
  refine W.widen (k := 1000 + 4 * (c + 1) + tot t') (n := 150000 + 24 * (c + 1) + 2 * tot t') (by omega) (by omega) ?_
  have S := g_comm S
  refine lv_istore (lv' := [(5, .int k), (0, .ref b), (1, .ref (lay.1 36)), (2, .ref (am 0)), (3, .ref o), (4, .int (nI i))]) hx hb dl_738 hl (by decide) rfl (fun ls hl => ?_)
  refine lv_aload_n hx hb dl_740 rfl (lv_at hl 3 rfl) ?_
  refine g_arg (j := 1) hx hb hX hbl hbA S.2.2 hL (by omega) (lv_at hl 1 rfl) (lv_at hl 5 rfl) rfl dl_741 dl_742 dl_744 dl_745 dl_746 ?_
  refine g_arg (j := 2) hx hb hX hbl hbA S.2.2 hL (by omega) (lv_at hl 1 rfl) (lv_at hl 5 rfl) rfl dl_747 dl_748 dl_750 dl_751 dl_752 ?_
  refine g_arg (j := 3) hx hb hX hbl hbA S.2.2 hL (by omega) (lv_at hl 1 rfl) (lv_at hl 5 rfl) rfl dl_753 dl_754 dl_756 dl_757 dl_758 ?_
  refine h_callVi (As := [.int (xs (i + 1)), .int (xs (i + 2)), .int (xs (i + 3))]) (na := 3) C Kx S (wM_obj cI cB am μ) rfl ((ct_X12_channel l D cI cB cL am (xs (i + 1)) (xs (i + 2)) (xs (i + 3)) μ hm).toH) lw_9069 lw_9070 lw_9071 mw_5 lw_9072 hdX12_channel ⟨Nat.le_of_ble_eq_true rfl, Nat.le_of_ble_eq_true rfl⟩ rfl hl.1 ⟨(by show _ ≤ 601024; omega), (by show _ ≤ 7293034; omega)⟩ (Nat.le_of_ble_eq_true rfl) dl_759 rfl (fun r2 X' H locs hRI S => ?_)
  obtain ⟨rfl, rfl⟩ := hRI
  exact law_tail LC' hc KE h36 hI' hth hg hl S dl_762 dl_764 dl_765 dl_768 dl_770 dl_775 dl_777 dl_780 dl_781 dl_782 dl_783 dl_785 dl_786 dl_787 dl_792 (by decide)
theorem lc_packet (LC : lawC l D cI cB cL ka kv fv p s m c0 meth b L xs) (hi : i + 5 < L) (hc : c < 512) (KE : lawAt l D cI cB cL p e s m below meth c0 b x o am i 2526 (c + 1)) : lawAt l D cI cB cL p e s m below meth c0 b x o am i 795 c := by
  intro lay t μ f H locs ls hxx hI S hl
  subst hxx
  have LC' := LC
  obtain ⟨C, Kx, Np, hX, hbl, hst, hL⟩ := LC
  have hx := C.1
  have hb := C.2.1
  have hbA : ¬ (fun q => s.heap.size ≤ q) b := Nat.not_le.mpr hbl
  obtain ⟨r, μ', hm, mc, ms, g, g1, g2, g3, hop⟩ := op_packet (l := l) (D := D) (cI := cI) (cB := cB) (cL := cL) (ka := ka) (kv := kv) (fv := fv) hst hI (xs (i + 1)) (xs (i + 2)) (xs (i + 3)) (xs (i + 4))
  have hM := hop lay
  refine lv_aload_n hx hb dl_795 rfl (lv_at hl 1 rfl) ?_
  refine g_arg (j := 1) hx hb hX hbl hbA S.2.2 hL (by omega) (lv_at hl 0 rfl) (lv_at hl 4 rfl) rfl dl_796 dl_797 dl_799 dl_800 dl_801 ?_
  refine g_arg (j := 2) hx hb hX hbl hbA S.2.2 hL (by omega) (lv_at hl 0 rfl) (lv_at hl 4 rfl) rfl dl_802 dl_803 dl_805 dl_806 dl_807 ?_
  refine g_arg (j := 3) hx hb hX hbl hbA S.2.2 hL (by omega) (lv_at hl 0 rfl) (lv_at hl 4 rfl) rfl dl_808 dl_809 dl_811 dl_812 dl_813 ?_
  refine g_arg (j := 4) hx hb hX hbl hbA S.2.2 hL (by omega) (lv_at hl 0 rfl) (lv_at hl 4 rfl) rfl dl_814 dl_815 dl_817 dl_818 dl_819 ?_
  refine lv_aload_n hx hb dl_820 rfl (lv_at hl 3 rfl) ?_
  refine h_callSW (As := [.ref (lay.1 36), .int (xs (i + 1)), .int (xs (i + 2)), .int (xs (i + 3)), .int (xs (i + 4)), .ref o]) (na := 6) C Kx Np S (wl_packet l D cI cB cL ka kv fv (lay.1 36) o f (xs (i + 1)) (xs (i + 2)) (xs (i + 3)) (xs (i + 4)) (lpX_obj cI cB lay t) hM (fun E X' h => by have h := h.1; simpa using h)) lw_9073 lw_9074 lth_6 lw_9075 hdL_packet ⟨Nat.le_of_ble_eq_true rfl, Nat.le_of_ble_eq_true rfl⟩ rfl hl.1 ⟨(by show _ ≤ 601024; omega), (by show _ ≤ 7293034; omega)⟩ (Nat.le_of_ble_eq_true rfl) dl_821 rfl (fun k X' H locs hRW S => ?_)
  obtain ⟨lay', t', g', rfl, h36, ht, hI', hth, hg⟩ := rW_key hRW kcB
  refine W.widen (k := 1000 + 4 * (c + 1) + tot t') (n := 150000 + 24 * (c + 1) + 2 * tot t') (by omega) (by omega) ?_
  have S := g_comm S
  refine lv_istore (lv' := [(5, .int k), (0, .ref b), (1, .ref (lay.1 36)), (2, .ref (am 0)), (3, .ref o), (4, .int (nI i))]) hx hb dl_824 hl (by decide) rfl (fun ls hl => ?_)
  refine lv_aload_n hx hb dl_826 rfl (lv_at hl 3 rfl) ?_
  refine g_arg (j := 1) hx hb hX hbl hbA S.2.2 hL (by omega) (lv_at hl 1 rfl) (lv_at hl 5 rfl) rfl dl_827 dl_828 dl_830 dl_831 dl_832 ?_
  refine g_arg (j := 2) hx hb hX hbl hbA S.2.2 hL (by omega) (lv_at hl 1 rfl) (lv_at hl 5 rfl) rfl dl_833 dl_834 dl_836 dl_837 dl_838 ?_
  refine g_arg (j := 3) hx hb hX hbl hbA S.2.2 hL (by omega) (lv_at hl 1 rfl) (lv_at hl 5 rfl) rfl dl_839 dl_840 dl_842 dl_843 dl_844 ?_
  refine g_arg (j := 4) hx hb hX hbl hbA S.2.2 hL (by omega) (lv_at hl 1 rfl) (lv_at hl 5 rfl) rfl dl_845 dl_846 dl_848 dl_849 dl_850 ?_
  refine h_callVi (As := [.int (xs (i + 1)), .int (xs (i + 2)), .int (xs (i + 3)), .int (xs (i + 4))]) (na := 4) C Kx S (wM_obj cI cB am μ) rfl ((ct_X12_packet l D cI cB cL am (xs (i + 1)) (xs (i + 2)) (xs (i + 3)) (xs (i + 4)) μ hm).toH) lw_9076 lw_9077 lw_9078 mw_5 lw_9079 hdX12_packet ⟨Nat.le_of_ble_eq_true rfl, Nat.le_of_ble_eq_true rfl⟩ rfl hl.1 ⟨(by show _ ≤ 601024; omega), (by show _ ≤ 7293034; omega)⟩ (Nat.le_of_ble_eq_true rfl) dl_851 rfl (fun r2 X' H locs hRI S => ?_)
  obtain ⟨rfl, rfl⟩ := hRI
  exact law_tail LC' hc KE h36 hI' hth hg hl S dl_854 dl_856 dl_857 dl_860 dl_862 dl_867 dl_869 dl_872 dl_873 dl_874 dl_875 dl_877 dl_878 dl_879 dl_884 (by decide)
theorem lc_gather (LC : lawC l D cI cB cL ka kv fv p s m c0 meth b L xs) (hi : i + 5 < L) (hc : c < 512) (KE : lawAt l D cI cB cL p e s m below meth c0 b x o am i 2526 (c + 1)) : lawAt l D cI cB cL p e s m below meth c0 b x o am i 887 c := by
  intro lay t μ f H locs ls hxx hI S hl
  subst hxx
  have LC' := LC
  obtain ⟨C, Kx, Np, hX, hbl, hst, hL⟩ := LC
  have hx := C.1
  have hb := C.2.1
  have hbA : ¬ (fun q => s.heap.size ≤ q) b := Nat.not_le.mpr hbl
  obtain ⟨r, μ', hm, mc, ms, g, g1, g2, g3, hop⟩ := op_gather (l := l) (D := D) (cI := cI) (cB := cB) (cL := cL) (ka := ka) (kv := kv) (fv := fv) hst hI (xs (i + 1)) (xs (i + 2)) (xs (i + 3))
  have hM := hop lay
  refine lv_aload_n hx hb dl_887 rfl (lv_at hl 1 rfl) ?_
  refine g_arg (j := 1) hx hb hX hbl hbA S.2.2 hL (by omega) (lv_at hl 0 rfl) (lv_at hl 4 rfl) rfl dl_888 dl_889 dl_891 dl_892 dl_893 ?_
  refine g_arg (j := 2) hx hb hX hbl hbA S.2.2 hL (by omega) (lv_at hl 0 rfl) (lv_at hl 4 rfl) rfl dl_894 dl_895 dl_897 dl_898 dl_899 ?_
  refine g_arg (j := 3) hx hb hX hbl hbA S.2.2 hL (by omega) (lv_at hl 0 rfl) (lv_at hl 4 rfl) rfl dl_900 dl_901 dl_903 dl_904 dl_905 ?_
  refine lv_aload_n hx hb dl_906 rfl (lv_at hl 3 rfl) ?_
  refine h_callSW (As := [.ref (lay.1 36), .int (xs (i + 1)), .int (xs (i + 2)), .int (xs (i + 3)), .ref o]) (na := 5) C Kx Np S (wl_gather l D cI cB cL ka kv fv (lay.1 36) o f (xs (i + 1)) (xs (i + 2)) (xs (i + 3)) (lpX_obj cI cB lay t) hM (fun E X' h => by have h := h.1; simpa using h)) lw_9080 lw_9081 lth_6 lw_9082 hdL_gather ⟨Nat.le_of_ble_eq_true rfl, Nat.le_of_ble_eq_true rfl⟩ rfl hl.1 ⟨(by show _ ≤ 601024; omega), (by show _ ≤ 7293034; omega)⟩ (Nat.le_of_ble_eq_true rfl) dl_907 rfl (fun k X' H locs hRW S => ?_)
  obtain ⟨lay', t', g', rfl, h36, ht, hI', hth, hg⟩ := rW_key hRW kcE
  refine W.widen (k := 1000 + 4 * (c + 1) + tot t') (n := 150000 + 24 * (c + 1) + 2 * tot t') (by omega) (by omega) ?_
  have S := g_comm S
  refine lv_istore (lv' := [(5, .int k), (0, .ref b), (1, .ref (lay.1 36)), (2, .ref (am 0)), (3, .ref o), (4, .int (nI i))]) hx hb dl_910 hl (by decide) rfl (fun ls hl => ?_)
  refine lv_aload_n hx hb dl_912 rfl (lv_at hl 3 rfl) ?_
  refine g_arg (j := 1) hx hb hX hbl hbA S.2.2 hL (by omega) (lv_at hl 1 rfl) (lv_at hl 5 rfl) rfl dl_913 dl_914 dl_916 dl_917 dl_918 ?_
  refine g_arg (j := 2) hx hb hX hbl hbA S.2.2 hL (by omega) (lv_at hl 1 rfl) (lv_at hl 5 rfl) rfl dl_919 dl_920 dl_922 dl_923 dl_924 ?_
  refine g_arg (j := 3) hx hb hX hbl hbA S.2.2 hL (by omega) (lv_at hl 1 rfl) (lv_at hl 5 rfl) rfl dl_925 dl_926 dl_928 dl_929 dl_930 ?_
  refine h_callVi (As := [.int (xs (i + 1)), .int (xs (i + 2)), .int (xs (i + 3))]) (na := 3) C Kx S (wM_obj cI cB am μ) rfl ((ct_X12_gather l D cI cB cL am (xs (i + 1)) (xs (i + 2)) (xs (i + 3)) μ hm).toH) lw_9083 lw_9084 lw_9085 mw_5 lw_9086 hdX12_gather ⟨Nat.le_of_ble_eq_true rfl, Nat.le_of_ble_eq_true rfl⟩ rfl hl.1 ⟨(by show _ ≤ 601024; omega), (by show _ ≤ 7293034; omega)⟩ (Nat.le_of_ble_eq_true rfl) dl_931 rfl (fun r2 X' H locs hRI S => ?_)
  obtain ⟨rfl, rfl⟩ := hRI
  exact law_tail LC' hc KE h36 hI' hth hg hl S dl_934 dl_936 dl_937 dl_940 dl_942 dl_947 dl_949 dl_952 dl_953 dl_954 dl_955 dl_957 dl_958 dl_959 dl_964 (by decide)
theorem lc_ticks (LC : lawC l D cI cB cL ka kv fv p s m c0 meth b L xs) (hi : i + 5 < L) (hc : c < 512) (KE : lawAt l D cI cB cL p e s m below meth c0 b x o am i 2526 (c + 1)) : lawAt l D cI cB cL p e s m below meth c0 b x o am i 967 c := by
  intro lay t μ f H locs ls hxx hI S hl
  subst hxx
  have LC' := LC
  obtain ⟨C, Kx, Np, hX, hbl, hst, hL⟩ := LC
  have hx := C.1
  have hb := C.2.1
  have hbA : ¬ (fun q => s.heap.size ≤ q) b := Nat.not_le.mpr hbl
  obtain ⟨r, μ', hm, mc, ms, g, g1, g2, g3, hop⟩ := op_ticks (l := l) (D := D) (cI := cI) (cB := cB) (cL := cL) (ka := ka) (kv := kv) (fv := fv) hst hI (by omega) (xs (i + 1))
  have hM := hop lay
  refine lv_aload_n hx hb dl_967 rfl (lv_at hl 1 rfl) ?_
  refine g_arg (j := 1) hx hb hX hbl hbA S.2.2 hL (by omega) (lv_at hl 0 rfl) (lv_at hl 4 rfl) rfl dl_968 dl_969 dl_971 dl_972 dl_973 ?_
  refine lv_aload_n hx hb dl_974 rfl (lv_at hl 3 rfl) ?_
  refine h_callSW (As := [.ref (lay.1 36), .int (xs (i + 1)), .ref o]) (na := 3) C Kx Np S (wl_ticks l D cI cB cL ka kv fv (lay.1 36) o f (xs (i + 1)) (lpX_obj cI cB lay t) hM (fun E X' h => by have h := h.1; simpa using h)) lw_9087 lw_9088 lth_6 lw_9089 hdL_ticks ⟨Nat.le_of_ble_eq_true rfl, Nat.le_of_ble_eq_true rfl⟩ rfl hl.1 ⟨(by show _ ≤ 601024; omega), (by show _ ≤ 7293034; omega)⟩ (Nat.le_of_ble_eq_true rfl) dl_975 rfl (fun k X' H locs hRW S => ?_)
  obtain ⟨lay', t', g', rfl, h36, ht, hI', hth, hg⟩ := rW_key hRW kcF
  refine W.widen (k := 1000 + 4 * (c + 1) + tot t') (n := 150000 + 24 * (c + 1) + 2 * tot t') (by omega) (by omega) ?_
  have S := g_comm S
  refine lv_istore (lv' := [(5, .int k), (0, .ref b), (1, .ref (lay.1 36)), (2, .ref (am 0)), (3, .ref o), (4, .int (nI i))]) hx hb dl_978 hl (by decide) rfl (fun ls hl => ?_)
  refine lv_aload_n hx hb dl_980 rfl (lv_at hl 3 rfl) ?_
  refine g_arg (j := 1) hx hb hX hbl hbA S.2.2 hL (by omega) (lv_at hl 1 rfl) (lv_at hl 5 rfl) rfl dl_981 dl_982 dl_984 dl_985 dl_986 ?_
  refine h_callVi (As := [.int (xs (i + 1))]) (na := 1) C Kx S (wM_obj cI cB am μ) rfl ((ct_X12_ticks l D cI cB cL am (xs (i + 1)) μ hm).toH) lw_9090 lw_9091 lw_9092 mw_5 lw_9093 hdX12_ticks ⟨Nat.le_of_ble_eq_true rfl, Nat.le_of_ble_eq_true rfl⟩ rfl hl.1 ⟨(by show _ ≤ 601024; omega), (by show _ ≤ 7293034; omega)⟩ (Nat.le_of_ble_eq_true rfl) dl_987 rfl (fun r2 X' H locs hRI S => ?_)
  obtain ⟨rfl, rfl⟩ := hRI
  exact law_tail LC' hc KE h36 hI' hth hg hl S dl_990 dl_992 dl_993 dl_996 dl_998 dl_1003 dl_1005 dl_1008 dl_1009 dl_1010 dl_1011 dl_1013 dl_1014 dl_1015 dl_1020 (by decide)
theorem lc_send (LC : lawC l D cI cB cL ka kv fv p s m c0 meth b L xs) (hi : i + 5 < L) (hc : c < 512) (KE : lawAt l D cI cB cL p e s m below meth c0 b x o am i 2526 (c + 1)) : lawAt l D cI cB cL p e s m below meth c0 b x o am i 1023 c := by
  intro lay t μ f H locs ls hxx hI S hl
  subst hxx
  have LC' := LC
  obtain ⟨C, Kx, Np, hX, hbl, hst, hL⟩ := LC
  have hx := C.1
  have hb := C.2.1
  have hbA : ¬ (fun q => s.heap.size ≤ q) b := Nat.not_le.mpr hbl
  obtain ⟨r, μ', hm, mc, ms, g, g1, g2, g3, hop⟩ := op_send (l := l) (D := D) (cI := cI) (cB := cB) (cL := cL) (ka := ka) (kv := kv) (fv := fv) hst hI (xs (i + 1)) (xs (i + 2))
  have hM := hop lay
  refine lv_aload_n hx hb dl_1023 rfl (lv_at hl 1 rfl) ?_
  refine g_arg (j := 1) hx hb hX hbl hbA S.2.2 hL (by omega) (lv_at hl 0 rfl) (lv_at hl 4 rfl) rfl dl_1024 dl_1025 dl_1027 dl_1028 dl_1029 ?_
  refine g_arg (j := 2) hx hb hX hbl hbA S.2.2 hL (by omega) (lv_at hl 0 rfl) (lv_at hl 4 rfl) rfl dl_1030 dl_1031 dl_1033 dl_1034 dl_1035 ?_
  refine lv_aload_n hx hb dl_1036 rfl (lv_at hl 3 rfl) ?_
  refine h_callSW (As := [.ref (lay.1 36), .int (xs (i + 1)), .int (xs (i + 2)), .ref o]) (na := 4) C Kx Np S (wl_send l D cI cB cL ka kv fv (lay.1 36) o f (xs (i + 1)) (xs (i + 2)) (lpX_obj cI cB lay t) hM (fun E X' h => by have h := h.1; simpa using h)) lw_9094 lw_9095 lth_6 lw_9096 hdL_send ⟨Nat.le_of_ble_eq_true rfl, Nat.le_of_ble_eq_true rfl⟩ rfl hl.1 ⟨(by show _ ≤ 601024; omega), (by show _ ≤ 7293034; omega)⟩ (Nat.le_of_ble_eq_true rfl) dl_1037 rfl (fun k X' H locs hRW S => ?_)
  obtain ⟨lay', t', g', rfl, h36, ht, hI', hth, hg⟩ := rW_key hRW kcC
  refine W.widen (k := 1000 + 4 * (c + 1) + tot t') (n := 150000 + 24 * (c + 1) + 2 * tot t') (by omega) (by omega) ?_
  have S := g_comm S
  refine lv_istore (lv' := [(5, .int k), (0, .ref b), (1, .ref (lay.1 36)), (2, .ref (am 0)), (3, .ref o), (4, .int (nI i))]) hx hb dl_1040 hl (by decide) rfl (fun ls hl => ?_)
  refine lv_aload_n hx hb dl_1042 rfl (lv_at hl 3 rfl) ?_
  refine g_arg (j := 1) hx hb hX hbl hbA S.2.2 hL (by omega) (lv_at hl 1 rfl) (lv_at hl 5 rfl) rfl dl_1043 dl_1044 dl_1046 dl_1047 dl_1048 ?_
  refine g_arg (j := 2) hx hb hX hbl hbA S.2.2 hL (by omega) (lv_at hl 1 rfl) (lv_at hl 5 rfl) rfl dl_1049 dl_1050 dl_1052 dl_1053 dl_1054 ?_
  refine h_callVi (As := [.int (xs (i + 1)), .int (xs (i + 2))]) (na := 2) C Kx S (wM_obj cI cB am μ) rfl ((ct_X12_send l D cI cB cL am (xs (i + 1)) (xs (i + 2)) μ hm).toH) lw_9097 lw_9098 lw_9099 mw_5 lw_9100 hdX12_send ⟨Nat.le_of_ble_eq_true rfl, Nat.le_of_ble_eq_true rfl⟩ rfl hl.1 ⟨(by show _ ≤ 601024; omega), (by show _ ≤ 7293034; omega)⟩ (Nat.le_of_ble_eq_true rfl) dl_1055 rfl (fun r2 X' H locs hRI S => ?_)
  obtain ⟨rfl, rfl⟩ := hRI
  exact law_tail LC' hc KE h36 hI' hth hg hl S dl_1058 dl_1060 dl_1061 dl_1064 dl_1066 dl_1071 dl_1073 dl_1076 dl_1077 dl_1078 dl_1079 dl_1081 dl_1082 dl_1083 dl_1088 (by decide)
end LX
