theorem dL_isDone_611 : decode cL_isDone 611 = .ok (.iload 14, 2) := by decide +kernel
theorem dL_isDone_613 : decode cL_isDone 613 = .ok (.iastore, 1) := by decide +kernel
theorem dL_isDone_614 : decode cL_isDone 614 = .ok (.aload 4, 2) := by decide +kernel
theorem dL_isDone_616 : decode cL_isDone 616 = .ok (.iconst 4, 1) := by decide +kernel
theorem dL_isDone_617 : decode cL_isDone 617 = .ok (.iload 18, 2) := by decide +kernel
theorem dL_isDone_619 : decode cL_isDone 619 = .ok (.imul, 1) := by decide +kernel
theorem dL_isDone_620 : decode cL_isDone 620 = .ok (.iconst 2, 1) := by decide +kernel
theorem dL_isDone_621 : decode cL_isDone 621 = .ok (.iadd, 1) := by decide +kernel
theorem dL_isDone_622 : decode cL_isDone 622 = .ok (.iload 15, 2) := by decide +kernel
theorem dL_isDone_624 : decode cL_isDone 624 = .ok (.iastore, 1) := by decide +kernel
theorem dL_isDone_625 : decode cL_isDone 625 = .ok (.aload 4, 2) := by decide +kernel
theorem dL_isDone_627 : decode cL_isDone 627 = .ok (.iconst 4, 1) := by decide +kernel
theorem dL_isDone_628 : decode cL_isDone 628 = .ok (.iload 18, 2) := by decide +kernel
theorem dL_isDone_630 : decode cL_isDone 630 = .ok (.imul, 1) := by decide +kernel
theorem dL_isDone_631 : decode cL_isDone 631 = .ok (.iconst 3, 1) := by decide +kernel
theorem dL_isDone_632 : decode cL_isDone 632 = .ok (.iadd, 1) := by decide +kernel
theorem dL_isDone_633 : decode cL_isDone 633 = .ok (.iload 16, 2) := by decide +kernel
theorem dL_isDone_635 : decode cL_isDone 635 = .ok (.iastore, 1) := by decide +kernel
theorem dL_isDone_636 : decode cL_isDone 636 = .ok (.aload 7, 2) := by decide +kernel
theorem dL_isDone_638 : decode cL_isDone 638 = .ok (.iconst 2, 1) := by decide +kernel
theorem dL_isDone_639 : decode cL_isDone 639 = .ok (.dup2, 1) := by decide +kernel
theorem dL_isDone_640 : decode cL_isDone 640 = .ok (.iaload, 1) := by decide +kernel
theorem dL_isDone_641 : decode cL_isDone 641 = .ok (.iconst 1, 1) := by decide +kernel
theorem dL_isDone_642 : decode cL_isDone 642 = .ok (.iadd, 1) := by decide +kernel
theorem dL_isDone_643 : decode cL_isDone 643 = .ok (.iastore, 1) := by decide +kernel
theorem dL_isDone_644 : decode cL_isDone 644 = .ok (.aload_n 0, 1) := by decide +kernel
theorem dL_isDone_645 : decode cL_isDone 645 = .ok (.iconst 5, 1) := by decide +kernel
theorem dL_isDone_646 : decode cL_isDone 646 = .ok (.iload 13, 2) := by decide +kernel
theorem dL_isDone_648 : decode cL_isDone 648 = .ok (.iload 14, 2) := by decide +kernel
theorem dL_isDone_650 : decode cL_isDone 650 = .ok (.iload 15, 2) := by decide +kernel
theorem dL_isDone_652 : decode cL_isDone 652 = .ok (.iload 16, 2) := by decide +kernel
theorem dL_isDone_654 : decode cL_isDone 654 = .ok (.invokestatic 96, 3) := by decide +kernel
theorem dL_isDone_657 : decode cL_isDone 657 = .ok (.iload 18, 2) := by decide +kernel
theorem dL_isDone_659 : decode cL_isDone 659 = .ok (.if_icmp .ne 7, 3) := by decide +kernel
theorem dL_isDone_662 : decode cL_isDone 662 = .ok (.iconst 1, 1) := by decide +kernel
theorem dL_isDone_663 : decode cL_isDone 663 = .ok (.goto 4, 3) := by decide +kernel
theorem dL_isDone_666 : decode cL_isDone 666 = .ok (.iconst 0, 1) := by decide +kernel
theorem dL_isDone_667 : decode cL_isDone 667 = .ok (.ireturn, 1) := by decide +kernel
theorem dL_isDone_668 : decode cL_isDone 668 = .ok (.iload 8, 2) := by decide +kernel
theorem dL_isDone_670 : decode cL_isDone 670 = .ok (.bipush 27, 2) := by decide +kernel
theorem dL_isDone_672 : decode cL_isDone 672 = .ok (.if_icmp .ge 26, 3) := by decide +kernel
theorem dL_isDone_675 : decode cL_isDone 675 = .ok (.aload_n 0, 1) := by decide +kernel
theorem dL_isDone_676 : decode cL_isDone 676 = .ok (.aload_n 3, 1) := by decide +kernel
theorem dL_isDone_677 : decode cL_isDone 677 = .ok (.aload 4, 2) := by decide +kernel
theorem dL_isDone_679 : decode cL_isDone 679 = .ok (.aload 5, 2) := by decide +kernel
theorem dL_isDone_681 : decode cL_isDone 681 = .ok (.aload 7, 2) := by decide +kernel
theorem dL_isDone_683 : decode cL_isDone 683 = .ok (.iload 12, 2) := by decide +kernel
theorem dL_isDone_685 : decode cL_isDone 685 = .ok (.iload 10, 2) := by decide +kernel
theorem dL_isDone_687 : decode cL_isDone 687 = .ok (.aload 7, 2) := by decide +kernel
theorem dL_isDone_689 : decode cL_isDone 689 = .ok (.iconst 2, 1) := by decide +kernel
theorem dL_isDone_690 : decode cL_isDone 690 = .ok (.iaload, 1) := by decide +kernel
theorem dL_isDone_691 : decode cL_isDone 691 = .ok (.iconst 1, 1) := by decide +kernel
theorem dL_isDone_692 : decode cL_isDone 692 = .ok (.iadd, 1) := by decide +kernel
theorem dL_isDone_693 : decode cL_isDone 693 = .ok (.irem, 1) := by decide +kernel
theorem dL_isDone_694 : decode cL_isDone 694 = .ok (.invokestatic 112, 3) := by decide +kernel
theorem dL_isDone_697 : decode cL_isDone 697 = .ok (.ireturn, 1) := by decide +kernel
theorem dL_isDone_698 : decode cL_isDone 698 = .ok (.iload 8, 2) := by decide +kernel
theorem dL_isDone_700 : decode cL_isDone 700 = .ok (.bipush 27, 2) := by decide +kernel
theorem dL_isDone_702 : decode cL_isDone 702 = .ok (.if_icmp .ne 82, 3) := by decide +kernel
theorem dL_isDone_705 : decode cL_isDone 705 = .ok (.iload 12, 2) := by decide +kernel
theorem dL_isDone_707 : decode cL_isDone 707 = .ok (.aload 7, 2) := by decide +kernel
theorem dL_isDone_709 : decode cL_isDone 709 = .ok (.iconst 1, 1) := by decide +kernel
theorem dL_isDone_710 : decode cL_isDone 710 = .ok (.iaload, 1) := by decide +kernel
theorem dL_isDone_711 : decode cL_isDone 711 = .ok (.if_icmp .ne 8, 3) := by decide +kernel
theorem dL_isDone_714 : decode cL_isDone 714 = .ok (.bipush (-30), 2) := by decide +kernel
theorem dL_isDone_716 : decode cL_isDone 716 = .ok (.goto 29, 3) := by decide +kernel
theorem dL_isDone_719 : decode cL_isDone 719 = .ok (.aload_n 3, 1) := by decide +kernel
theorem dL_isDone_720 : decode cL_isDone 720 = .ok (.bipush 10, 2) := by decide +kernel
theorem dL_isDone_722 : decode cL_isDone 722 = .ok (.iload 12, 2) := by decide +kernel
theorem dL_isDone_724 : decode cL_isDone 724 = .ok (.imul, 1) := by decide +kernel
theorem dL_isDone_725 : decode cL_isDone 725 = .ok (.iconst 3, 1) := by decide +kernel
theorem dL_isDone_726 : decode cL_isDone 726 = .ok (.iadd, 1) := by decide +kernel
theorem dL_isDone_727 : decode cL_isDone 727 = .ok (.iaload, 1) := by decide +kernel
theorem dL_isDone_728 : decode cL_isDone 728 = .ok (.ifCond .ge 8, 3) := by decide +kernel
theorem dL_isDone_731 : decode cL_isDone 731 = .ok (.bipush (-10), 2) := by decide +kernel
theorem dL_isDone_733 : decode cL_isDone 733 = .ok (.goto 12, 3) := by decide +kernel
theorem dL_isDone_736 : decode cL_isDone 736 = .ok (.aload_n 3, 1) := by decide +kernel
theorem dL_isDone_737 : decode cL_isDone 737 = .ok (.bipush 10, 2) := by decide +kernel
theorem dL_isDone_739 : decode cL_isDone 739 = .ok (.iload 12, 2) := by decide +kernel
theorem dL_isDone_741 : decode cL_isDone 741 = .ok (.imul, 1) := by decide +kernel
theorem dL_isDone_742 : decode cL_isDone 742 = .ok (.iconst 3, 1) := by decide +kernel
theorem dL_isDone_743 : decode cL_isDone 743 = .ok (.iadd, 1) := by decide +kernel
theorem dL_isDone_744 : decode cL_isDone 744 = .ok (.iaload, 1) := by decide +kernel
theorem dL_isDone_745 : decode cL_isDone 745 = .ok (.istore 13, 2) := by decide +kernel
theorem dL_isDone_747 : decode cL_isDone 747 = .ok (.iload 13, 2) := by decide +kernel
theorem dL_isDone_749 : decode cL_isDone 749 = .ok (.ifCond .lt 13, 3) := by decide +kernel
theorem dL_isDone_752 : decode cL_isDone 752 = .ok (.aload_n 3, 1) := by decide +kernel
theorem dL_isDone_753 : decode cL_isDone 753 = .ok (.bipush 10, 2) := by decide +kernel
theorem dL_isDone_755 : decode cL_isDone 755 = .ok (.iload 12, 2) := by decide +kernel
theorem dL_isDone_757 : decode cL_isDone 757 = .ok (.imul, 1) := by decide +kernel
theorem dL_isDone_758 : decode cL_isDone 758 = .ok (.iconst 3, 1) := by decide +kernel
theorem dL_isDone_759 : decode cL_isDone 759 = .ok (.iadd, 1) := by decide +kernel
theorem dL_isDone_760 : decode cL_isDone 760 = .ok (.iconst (-1), 1) := by decide +kernel
theorem dL_isDone_761 : decode cL_isDone 761 = .ok (.iastore, 1) := by decide +kernel
theorem dL_isDone_762 : decode cL_isDone 762 = .ok (.aload_n 0, 1) := by decide +kernel
theorem dL_isDone_763 : decode cL_isDone 763 = .ok (.bipush 7, 2) := by decide +kernel
theorem dL_isDone_765 : decode cL_isDone 765 = .ok (.iload 12, 2) := by decide +kernel
theorem dL_isDone_767 : decode cL_isDone 767 = .ok (.iconst 0, 1) := by decide +kernel
theorem dL_isDone_768 : decode cL_isDone 768 = .ok (.iconst 0, 1) := by decide +kernel
theorem dL_isDone_769 : decode cL_isDone 769 = .ok (.iconst 0, 1) := by decide +kernel
theorem dL_isDone_770 : decode cL_isDone 770 = .ok (.invokestatic 96, 3) := by decide +kernel
theorem dL_isDone_773 : decode cL_isDone 773 = .ok (.iload 13, 2) := by decide +kernel
theorem dL_isDone_775 : decode cL_isDone 775 = .ok (.if_icmp .ne 7, 3) := by decide +kernel
theorem dL_isDone_778 : decode cL_isDone 778 = .ok (.iconst 1, 1) := by decide +kernel
theorem dL_isDone_779 : decode cL_isDone 779 = .ok (.goto 4, 3) := by decide +kernel
theorem dL_isDone_782 : decode cL_isDone 782 = .ok (.iconst 0, 1) := by decide +kernel
theorem dL_isDone_783 : decode cL_isDone 783 = .ok (.ireturn, 1) := by decide +kernel
theorem dL_isDone_784 : decode cL_isDone 784 = .ok (.iload 8, 2) := by decide +kernel
theorem dL_isDone_786 : decode cL_isDone 786 = .ok (.bipush 31, 2) := by decide +kernel
theorem dL_isDone_788 : decode cL_isDone 788 = .ok (.if_icmp .ge 32, 3) := by decide +kernel
theorem dL_isDone_791 : decode cL_isDone 791 = .ok (.aload_n 0, 1) := by decide +kernel
theorem dL_isDone_792 : decode cL_isDone 792 = .ok (.aload_n 3, 1) := by decide +kernel
theorem dL_isDone_793 : decode cL_isDone 793 = .ok (.aload 7, 2) := by decide +kernel
theorem dL_isDone_795 : decode cL_isDone 795 = .ok (.iload 12, 2) := by decide +kernel
theorem dL_isDone_797 : decode cL_isDone 797 = .ok (.iload 10, 2) := by decide +kernel
theorem dL_isDone_799 : decode cL_isDone 799 = .ok (.bipush 40, 2) := by decide +kernel
theorem dL_isDone_801 : decode cL_isDone 801 = .ok (.irem, 1) := by decide +kernel
theorem dL_isDone_802 : decode cL_isDone 802 = .ok (.ifCond .ne 9, 3) := by decide +kernel
theorem dL_isDone_805 : decode cL_isDone 805 = .ok (.sipush 1001, 3) := by decide +kernel
theorem dL_isDone_808 : decode cL_isDone 808 = .ok (.goto 8, 3) := by decide +kernel
theorem dL_isDone_811 : decode cL_isDone 811 = .ok (.iload 10, 2) := by decide +kernel
theorem dL_isDone_813 : decode cL_isDone 813 = .ok (.bipush 40, 2) := by decide +kernel
theorem dL_isDone_815 : decode cL_isDone 815 = .ok (.irem, 1) := by decide +kernel
theorem dL_isDone_816 : decode cL_isDone 816 = .ok (.invokestatic 116, 3) := by decide +kernel
theorem dL_isDone_819 : decode cL_isDone 819 = .ok (.ireturn, 1) := by decide +kernel
theorem dL_isDone_820 : decode cL_isDone 820 = .ok (.aload_n 0, 1) := by decide +kernel
theorem dL_isDone_821 : decode cL_isDone 821 = .ok (.bipush 9, 2) := by decide +kernel
theorem dL_isDone_823 : decode cL_isDone 823 = .ok (.iconst 0, 1) := by decide +kernel
theorem dL_isDone_824 : decode cL_isDone 824 = .ok (.iconst 0, 1) := by decide +kernel
theorem dL_isDone_825 : decode cL_isDone 825 = .ok (.iconst 0, 1) := by decide +kernel
theorem dL_isDone_826 : decode cL_isDone 826 = .ok (.iconst 0, 1) := by decide +kernel
theorem dL_isDone_827 : decode cL_isDone 827 = .ok (.invokestatic 96, 3) := by decide +kernel
theorem dL_isDone_830 : decode cL_isDone 830 = .ok (.bipush (-20), 2) := by decide +kernel
theorem dL_isDone_832 : decode cL_isDone 832 = .ok (.if_icmp .ne 23, 3) := by decide +kernel
theorem dL_isDone_835 : decode cL_isDone 835 = .ok (.aload_n 0, 1) := by decide +kernel
theorem dL_isDone_836 : decode cL_isDone 836 = .ok (.bipush 9, 2) := by decide +kernel
theorem dL_isDone_838 : decode cL_isDone 838 = .ok (.bipush 101, 2) := by decide +kernel
theorem dL_isDone_840 : decode cL_isDone 840 = .ok (.iconst 0, 1) := by decide +kernel
theorem dL_isDone_841 : decode cL_isDone 841 = .ok (.iconst 0, 1) := by decide +kernel
theorem dL_isDone_842 : decode cL_isDone 842 = .ok (.iconst 0, 1) := by decide +kernel
theorem dL_isDone_843 : decode cL_isDone 843 = .ok (.invokestatic 96, 3) := by decide +kernel
theorem dL_isDone_846 : decode cL_isDone 846 = .ok (.bipush (-20), 2) := by decide +kernel
theorem dL_isDone_848 : decode cL_isDone 848 = .ok (.if_icmp .ne 7, 3) := by decide +kernel
theorem dL_isDone_851 : decode cL_isDone 851 = .ok (.iconst 1, 1) := by decide +kernel
theorem dL_isDone_852 : decode cL_isDone 852 = .ok (.goto 4, 3) := by decide +kernel
theorem dL_isDone_855 : decode cL_isDone 855 = .ok (.iconst 0, 1) := by decide +kernel
theorem dL_isDone_856 : decode cL_isDone 856 = .ok (.istore 13, 2) := by decide +kernel
theorem dL_isDone_858 : decode cL_isDone 858 = .ok (.iconst 0, 1) := by decide +kernel
theorem dL_isDone_859 : decode cL_isDone 859 = .ok (.istore 14, 2) := by decide +kernel
theorem dL_isDone_861 : decode cL_isDone 861 = .ok (.iload 14, 2) := by decide +kernel
theorem dL_isDone_863 : decode cL_isDone 863 = .ok (.iconst 1, 1) := by decide +kernel
theorem dL_isDone_864 : decode cL_isDone 864 = .ok (.iload 9, 2) := by decide +kernel
theorem dL_isDone_866 : decode cL_isDone 866 = .ok (.bipush 9, 2) := by decide +kernel
theorem dL_isDone_868 : decode cL_isDone 868 = .ok (.irem, 1) := by decide +kernel
theorem dL_isDone_869 : decode cL_isDone 869 = .ok (.iadd, 1) := by decide +kernel
theorem dL_isDone_870 : decode cL_isDone 870 = .ok (.if_icmp .ge 25, 3) := by decide +kernel
theorem dL_isDone_873 : decode cL_isDone 873 = .ok (.iload 13, 2) := by decide +kernel
theorem dL_isDone_875 : decode cL_isDone 875 = .ok (.ifCond .eq 20, 3) := by decide +kernel
theorem dL_isDone_878 : decode cL_isDone 878 = .ok (.aload_n 0, 1) := by decide +kernel
theorem dL_isDone_879 : decode cL_isDone 879 = .ok (.aload_n 3, 1) := by decide +kernel
theorem dL_isDone_880 : decode cL_isDone 880 = .ok (.aload 4, 2) := by decide +kernel
theorem dL_isDone_882 : decode cL_isDone 882 = .ok (.aload 7, 2) := by decide +kernel
theorem dL_isDone_884 : decode cL_isDone 884 = .ok (.invokestatic 120, 3) := by decide +kernel
theorem dL_isDone_887 : decode cL_isDone 887 = .ok (.istore 13, 2) := by decide +kernel
theorem dL_isDone_889 : decode cL_isDone 889 = .ok (.iinc 14 1, 3) := by decide +kernel
theorem dL_isDone_892 : decode cL_isDone 892 = .ok (.goto (-31), 3) := by decide +kernel
theorem dL_isDone_895 : decode cL_isDone 895 = .ok (.iload 13, 2) := by decide +kernel
theorem dL_isDone_897 : decode cL_isDone 897 = .ok (.ireturn, 1) := by decide +kernel
set_option maxRecDepth 20000 in
theorem ggL_law_X5_init : GoodIn wsL_law wsX5_init := goodIn_r _ [6, 7, 8, 9, 10, 11, 12, 13, 14, 15, 16, 17, 18, 19, 20, 365, 366, 367, 368, 369, 370, 371, 372] (by decide +kernel) (by decide +kernel)
set_option maxRecDepth 20000 in
theorem gL_law_X5_init : GoodIn wsL_law (wsX5_init) := ggL_law_X5_init
set_option maxRecDepth 20000 in
theorem ggL_law_L_arePeople : GoodIn wsL_law wsL_arePeople := goodIn_ca (goodIn_r _ [24, 25, 26, 23, 27, 28, 29, 30, 31, 2, 32, 33, 34, 35, 36, 37, 38, 11, 39, 40, 41, 42, 43, 44, 45, 46, 47, 48, 49, 50, 51, 52, 53, 54, 55, 56, 57, 58, 59, 60, 61, 62, 63, 64, 65, 66, 67, 68, 69, 70, 71, 72, 73, 74, 75, 76, 77, 78, 79, 80, 81, 82, 83, 15, 84, 85, 86, 87, 88, 89, 90, 91, 92, 93, 94, 95, 96, 97, 98, 13, 99, 100, 101, 102, 103, 104, 105, 106, 107, 108, 109, 110, 111, 112, 113, 114, 115, 116, 117, 118, 119, 120, 121, 122, 123, 124, 125, 126, 127, 128, 129, 130, 131, 132, 133, 134, 135, 136, 137, 138, 139, 140, 141, 142, 143, 144, 145, 146, 147, 148, 365, 366, 367, 368, 369, 370, 373, 374, 375, 376, 377, 378, 379, 380, 381, 382, 383, 384, 385, 386, 371, 372, 387, 388, 389, 390, 391, 392, 393, 394, 395, 396, 397, 398, 399, 400] (by decide +kernel) (by decide +kernel)) (goodIn_sub (fun _ h => List.mem_append_left _ (List.mem_append_left _ (List.mem_append_left _ (List.mem_append_right _ h)))) (by decide +kernel))
set_option maxRecDepth 20000 in
theorem gL_law_L_arePeople : GoodIn wsL_law (va_wsS RL 125 yL_arePeople wsL_arePeople) := goodIn_app (goodIn_of _ (by decide +kernel)) ggL_law_L_arePeople
set_option maxRecDepth 20000 in
theorem ggL_law_L_isDone : GoodIn wsL_law wsL_isDone := goodIn_ca (goodIn_ca (goodIn_ca (goodIn_ca (fun w h => (List.mem_cons.mp h).elim (fun e => by rw [e]; exact ⟨gq_head, Or.inl rfl⟩) (fun h => (goodIn_app (goodIn_app (goodIn_app (goodIn_app (goodIn_app (goodIn_app (goodIn_app gq_1 (goodIn_app gq_2 (goodIn_app gq_3 (goodIn_app gq_4 (goodIn_app gq_5 (goodIn_app gq_6 (goodIn_app gq_7 (goodIn_app gq_8 (goodIn_app gq_9 (goodIn_app gq_10 (goodIn_app gq_11 (goodIn_app gq_12 (goodIn_app gq_13 gq_14))))))))))))) (goodIn_sub inlX2 (by decide +kernel))) (goodIn_sub inlX5 (by decide +kernel))) (goodIn_sub inlX3 (by decide +kernel))) (goodIn_sub inlX0 (by decide +kernel))) (goodIn_sub inlX1 (by decide +kernel))) (goodIn_sub inlX4 (by decide +kernel))) w h)) (goodIn_sub (fun _ h => List.mem_append_left _ (List.mem_append_left _ (List.mem_append_left _ (List.mem_append_right _ h)))) (by decide +kernel))) (goodIn_sub (fun _ h => List.mem_append_left _ (List.mem_append_left _ (List.mem_append_right _ h))) (by decide +kernel))) (goodIn_sub (fun _ h => List.mem_append_left _ (List.mem_append_right _ h)) (by decide +kernel))) (goodIn_sub (fun _ h => List.mem_append_right _ h) (by decide +kernel))
set_option maxRecDepth 20000 in
theorem gL_law_L_isDone : GoodIn wsL_law (va_wsS RL 128 yL_isDone wsL_isDone) := goodIn_app (goodIn_of _ (by decide +kernel)) ggL_law_L_isDone
set_option maxRecDepth 20000 in
theorem ggL_law_L_does : GoodIn wsL_law wsL_does := goodIn_ca (goodIn_ca (goodIn_ca (goodIn_ca (goodIn_r _ [158, 28, 159, 160, 161, 162, 163, 2, 164, 165, 166, 167, 11, 10, 168, 42, 109, 169, 170, 171, 172, 173, 174, 175, 176, 177, 8, 9, 122, 178, 123, 179, 180, 134, 114, 46, 47, 181, 182, 183, 184, 3, 185, 186, 187, 188, 189, 33, 34, 35, 36, 37, 38, 190, 191, 192, 193, 194, 195, 63, 196, 197, 198, 199, 200, 201, 58, 202, 203, 204, 205, 206, 207, 208, 209, 210, 48, 49, 50, 51, 39, 40, 41, 43, 44, 45, 52, 53, 54, 55, 56, 57, 211, 212, 213, 214, 215, 216, 217, 218, 219, 127, 220, 221, 222, 223, 130, 224, 225, 226, 227, 228, 229, 230, 231, 232, 233, 234, 235, 236, 237, 238, 239, 240, 241, 242, 243, 244, 245, 246, 247, 248, 249, 250, 251, 252, 253, 79, 254, 80, 81, 82, 83, 15, 255, 256, 257, 258, 259, 13, 12, 260, 261, 262, 263, 264, 265, 266, 267, 268, 269, 270, 271, 272, 273, 274, 88, 275, 276, 95, 96, 97, 98, 277, 278, 279, 280, 281, 282, 283, 284, 285, 286, 287, 288, 289, 290, 291, 292, 293, 294, 295, 296, 297, 298, 89, 299, 300, 301, 302, 303, 103, 104, 110, 111, 112, 113, 115, 116, 117, 118, 119, 120, 121, 124, 125, 126, 128, 129, 131, 132, 133, 135, 136, 137, 304, 305, 306, 307, 308, 309, 310, 311, 312, 313, 314, 315, 316, 317, 318, 319, 320, 321, 322, 323, 324, 325, 326, 327, 328, 329, 330, 331, 332, 333, 334, 335, 336, 337, 338, 339, 340, 341, 342, 343, 344, 345, 346, 347, 348, 349, 365, 366, 367, 368, 369, 370, 373, 374, 375, 376, 377, 378, 379, 380, 381, 382, 383, 384, 385, 386, 393, 394, 395, 396, 397, 398, 399, 400, 387, 388, 389, 390, 391, 392, 371, 372] (by decide +kernel) (by decide +kernel)) (goodIn_sub (fun _ h => List.mem_append_left _ (List.mem_append_left _ (List.mem_append_right _ h))) (by decide +kernel))) (goodIn_sub (fun _ h => List.mem_append_left _ (List.mem_append_right _ h)) (by decide +kernel))) (goodIn_sub (fun _ h => List.mem_append_left _ (List.mem_append_left _ (List.mem_append_left _ (List.mem_append_right _ h)))) (by decide +kernel))) (goodIn_sub (fun _ h => List.mem_append_right _ h) (by decide +kernel))
set_option maxRecDepth 20000 in
theorem gL_law_L_does : GoodIn wsL_law (va_wsS RL 96 yL_does wsL_does) := goodIn_app (goodIn_of _ (by decide +kernel)) ggL_law_L_does
theorem dL_law_0 : decode cL_law 0 = .ok (.new 9, 3) := by decide +kernel
theorem dL_law_3 : decode cL_law 3 = .ok (.dup, 1) := by decide +kernel
theorem dL_law_4 : decode cL_law 4 = .ok (.invokespecial 124, 3) := by decide +kernel
theorem dL_law_7 : decode cL_law 7 = .ok (.astore_n 1, 1) := by decide +kernel
theorem dL_law_8 : decode cL_law 8 = .ok (.bipush 60, 2) := by decide +kernel
theorem dL_law_10 : decode cL_law 10 = .ok (.newarray .int, 2) := by decide +kernel
theorem dL_law_12 : decode cL_law 12 = .ok (.astore_n 2, 1) := by decide +kernel
theorem dL_law_13 : decode cL_law 13 = .ok (.bipush 32, 2) := by decide +kernel
theorem dL_law_15 : decode cL_law 15 = .ok (.newarray .int, 2) := by decide +kernel
theorem dL_law_17 : decode cL_law 17 = .ok (.astore_n 3, 1) := by decide +kernel
theorem dL_law_18 : decode cL_law 18 = .ok (.bipush 9, 2) := by decide +kernel
theorem dL_law_20 : decode cL_law 20 = .ok (.newarray .int, 2) := by decide +kernel
theorem dL_law_22 : decode cL_law 22 = .ok (.astore 4, 2) := by decide +kernel
theorem dL_law_24 : decode cL_law 24 = .ok (.bipush 60, 2) := by decide +kernel
theorem dL_law_26 : decode cL_law 26 = .ok (.newarray .int, 2) := by decide +kernel
theorem dL_law_28 : decode cL_law 28 = .ok (.astore 5, 2) := by decide +kernel
theorem dL_law_30 : decode cL_law 30 = .ok (.iconst 3, 1) := by decide +kernel
theorem dL_law_31 : decode cL_law 31 = .ok (.newarray .int, 2) := by decide +kernel
theorem dL_law_33 : decode cL_law 33 = .ok (.astore 6, 2) := by decide +kernel
theorem dL_law_35 : decode cL_law 35 = .ok (.aload_n 1, 1) := by decide +kernel
theorem dL_law_36 : decode cL_law 36 = .ok (.aload_n 2, 1) := by decide +kernel
theorem dL_law_37 : decode cL_law 37 = .ok (.aload_n 3, 1) := by decide +kernel
theorem dL_law_38 : decode cL_law 38 = .ok (.aload 6, 2) := by decide +kernel
theorem dL_law_40 : decode cL_law 40 = .ok (.invokestatic 125, 3) := by decide +kernel
theorem dL_law_43 : decode cL_law 43 = .ok (.istore 7, 2) := by decide +kernel
theorem dL_law_45 : decode cL_law 45 = .ok (.iconst 0, 1) := by decide +kernel
theorem dL_law_46 : decode cL_law 46 = .ok (.istore 8, 2) := by decide +kernel
theorem dL_law_48 : decode cL_law 48 = .ok (.iload 8, 2) := by decide +kernel
theorem dL_law_50 : decode cL_law 50 = .ok (.bipush 60, 2) := by decide +kernel
theorem dL_law_52 : decode cL_law 52 = .ok (.if_icmp .ge 52, 3) := by decide +kernel
theorem dL_law_55 : decode cL_law 55 = .ok (.iload 7, 2) := by decide +kernel
theorem dL_law_57 : decode cL_law 57 = .ok (.ifCond .eq 47, 3) := by decide +kernel
theorem dL_law_60 : decode cL_law 60 = .ok (.aload_n 1, 1) := by decide +kernel
theorem dL_law_61 : decode cL_law 61 = .ok (.aload_n 0, 1) := by decide +kernel
theorem dL_law_62 : decode cL_law 62 = .ok (.iconst 4, 1) := by decide +kernel
theorem dL_law_63 : decode cL_law 63 = .ok (.iload 8, 2) := by decide +kernel
theorem dL_law_65 : decode cL_law 65 = .ok (.imul, 1) := by decide +kernel
theorem dL_law_66 : decode cL_law 66 = .ok (.aload_n 2, 1) := by decide +kernel
theorem dL_law_67 : decode cL_law 67 = .ok (.aload_n 3, 1) := by decide +kernel
theorem dL_law_68 : decode cL_law 68 = .ok (.aload 4, 2) := by decide +kernel
theorem dL_law_70 : decode cL_law 70 = .ok (.aload 5, 2) := by decide +kernel
theorem dL_law_72 : decode cL_law 72 = .ok (.aload 6, 2) := by decide +kernel
theorem dL_law_74 : decode cL_law 74 = .ok (.invokestatic 128, 3) := by decide +kernel
theorem dL_law_77 : decode cL_law 77 = .ok (.ifCond .eq 18, 3) := by decide +kernel
theorem dL_law_80 : decode cL_law 80 = .ok (.aload_n 1, 1) := by decide +kernel
theorem dL_law_81 : decode cL_law 81 = .ok (.aload_n 2, 1) := by decide +kernel
theorem dL_law_82 : decode cL_law 82 = .ok (.aload_n 3, 1) := by decide +kernel
theorem dL_law_83 : decode cL_law 83 = .ok (.aload 6, 2) := by decide +kernel
theorem dL_law_85 : decode cL_law 85 = .ok (.invokestatic 125, 3) := by decide +kernel
theorem dL_law_88 : decode cL_law 88 = .ok (.ifCond .eq 7, 3) := by decide +kernel
theorem dL_law_91 : decode cL_law 91 = .ok (.iconst 1, 1) := by decide +kernel
theorem dL_law_92 : decode cL_law 92 = .ok (.goto 4, 3) := by decide +kernel
theorem dL_law_95 : decode cL_law 95 = .ok (.iconst 0, 1) := by decide +kernel
theorem dL_law_96 : decode cL_law 96 = .ok (.istore 7, 2) := by decide +kernel
theorem dL_law_98 : decode cL_law 98 = .ok (.iinc 8 1, 3) := by decide +kernel
theorem dL_law_101 : decode cL_law 101 = .ok (.goto (-53), 3) := by decide +kernel
theorem dL_law_104 : decode cL_law 104 = .ok (.iload 7, 2) := by decide +kernel
theorem dL_law_106 : decode cL_law 106 = .ok (.ifCond .eq 140, 3) := by decide +kernel
theorem dL_law_109 : decode cL_law 109 = .ok (.aload_n 1, 1) := by decide +kernel
theorem dL_law_110 : decode cL_law 110 = .ok (.iconst 0, 1) := by decide +kernel
theorem dL_law_111 : decode cL_law 111 = .ok (.iconst 0, 1) := by decide +kernel
theorem dL_law_112 : decode cL_law 112 = .ok (.iconst 0, 1) := by decide +kernel
theorem dL_law_113 : decode cL_law 113 = .ok (.iconst 0, 1) := by decide +kernel
theorem dL_law_114 : decode cL_law 114 = .ok (.iconst 0, 1) := by decide +kernel
theorem dL_law_115 : decode cL_law 115 = .ok (.invokestatic 96, 3) := by decide +kernel
theorem dL_law_118 : decode cL_law 118 = .ok (.bipush (-20), 2) := by decide +kernel
theorem dL_law_120 : decode cL_law 120 = .ok (.if_icmp .ne 126, 3) := by decide +kernel
theorem dL_law_123 : decode cL_law 123 = .ok (.aload_n 1, 1) := by decide +kernel
theorem dL_law_124 : decode cL_law 124 = .ok (.iconst 1, 1) := by decide +kernel
theorem dL_law_125 : decode cL_law 125 = .ok (.iconst (-1), 1) := by decide +kernel
theorem dL_law_126 : decode cL_law 126 = .ok (.iconst 0, 1) := by decide +kernel
theorem dL_law_127 : decode cL_law 127 = .ok (.bipush 101, 2) := by decide +kernel
theorem dL_law_129 : decode cL_law 129 = .ok (.iconst 0, 1) := by decide +kernel
theorem dL_law_130 : decode cL_law 130 = .ok (.invokestatic 96, 3) := by decide +kernel
theorem dL_law_133 : decode cL_law 133 = .ok (.bipush (-30), 2) := by decide +kernel
theorem dL_law_135 : decode cL_law 135 = .ok (.if_icmp .ne 111, 3) := by decide +kernel
theorem dL_law_138 : decode cL_law 138 = .ok (.aload_n 1, 1) := by decide +kernel
theorem dL_law_139 : decode cL_law 139 = .ok (.iconst 2, 1) := by decide +kernel
theorem dL_law_140 : decode cL_law 140 = .ok (.bipush 10, 2) := by decide +kernel
theorem dL_law_142 : decode cL_law 142 = .ok (.iconst 0, 1) := by decide +kernel
theorem dL_law_143 : decode cL_law 143 = .ok (.iconst 0, 1) := by decide +kernel
theorem dL_law_144 : decode cL_law 144 = .ok (.iconst 0, 1) := by decide +kernel
theorem dL_law_145 : decode cL_law 145 = .ok (.invokestatic 96, 3) := by decide +kernel
theorem dL_law_148 : decode cL_law 148 = .ok (.bipush (-30), 2) := by decide +kernel
theorem dL_law_150 : decode cL_law 150 = .ok (.if_icmp .ne 96, 3) := by decide +kernel
theorem dL_law_153 : decode cL_law 153 = .ok (.aload_n 1, 1) := by decide +kernel
theorem dL_law_154 : decode cL_law 154 = .ok (.iconst 3, 1) := by decide +kernel
theorem dL_law_155 : decode cL_law 155 = .ok (.bipush 10, 2) := by decide +kernel
theorem dL_law_157 : decode cL_law 157 = .ok (.iconst 0, 1) := by decide +kernel
theorem dL_law_158 : decode cL_law 158 = .ok (.iconst 0, 1) := by decide +kernel
theorem dL_law_159 : decode cL_law 159 = .ok (.iconst 0, 1) := by decide +kernel
theorem dL_law_160 : decode cL_law 160 = .ok (.invokestatic 96, 3) := by decide +kernel
theorem dL_law_163 : decode cL_law 163 = .ok (.bipush (-30), 2) := by decide +kernel
theorem dL_law_165 : decode cL_law 165 = .ok (.if_icmp .ne 81, 3) := by decide +kernel
theorem dL_law_168 : decode cL_law 168 = .ok (.aload_n 1, 1) := by decide +kernel
theorem dL_law_169 : decode cL_law 169 = .ok (.iconst 4, 1) := by decide +kernel
theorem dL_law_170 : decode cL_law 170 = .ok (.iconst 3, 1) := by decide +kernel
theorem dL_law_171 : decode cL_law 171 = .ok (.iconst 0, 1) := by decide +kernel
theorem dL_law_172 : decode cL_law 172 = .ok (.iconst 0, 1) := by decide +kernel
theorem dL_law_173 : decode cL_law 173 = .ok (.iconst 0, 1) := by decide +kernel
theorem dL_law_174 : decode cL_law 174 = .ok (.invokestatic 96, 3) := by decide +kernel
theorem dL_law_177 : decode cL_law 177 = .ok (.bipush (-30), 2) := by decide +kernel
theorem dL_law_179 : decode cL_law 179 = .ok (.if_icmp .ne 67, 3) := by decide +kernel
theorem dL_law_182 : decode cL_law 182 = .ok (.aload_n 1, 1) := by decide +kernel
theorem dL_law_183 : decode cL_law 183 = .ok (.iconst 5, 1) := by decide +kernel
theorem dL_law_184 : decode cL_law 184 = .ok (.iconst 4, 1) := by decide +kernel
theorem dL_law_185 : decode cL_law 185 = .ok (.iconst 0, 1) := by decide +kernel
theorem dL_law_186 : decode cL_law 186 = .ok (.iconst 0, 1) := by decide +kernel
theorem dL_law_187 : decode cL_law 187 = .ok (.iconst 0, 1) := by decide +kernel
theorem dL_law_188 : decode cL_law 188 = .ok (.invokestatic 96, 3) := by decide +kernel
theorem dL_law_191 : decode cL_law 191 = .ok (.bipush (-30), 2) := by decide +kernel
theorem dL_law_193 : decode cL_law 193 = .ok (.if_icmp .ne 53, 3) := by decide +kernel
theorem dL_law_196 : decode cL_law 196 = .ok (.aload_n 1, 1) := by decide +kernel
theorem dL_law_197 : decode cL_law 197 = .ok (.bipush 6, 2) := by decide +kernel
theorem dL_law_199 : decode cL_law 199 = .ok (.bipush 10, 2) := by decide +kernel
theorem dL_law_201 : decode cL_law 201 = .ok (.iconst 0, 1) := by decide +kernel
theorem dL_law_202 : decode cL_law 202 = .ok (.iconst 0, 1) := by decide +kernel
theorem dL_law_203 : decode cL_law 203 = .ok (.iconst 0, 1) := by decide +kernel
theorem dL_law_204 : decode cL_law 204 = .ok (.invokestatic 96, 3) := by decide +kernel
theorem dL_law_207 : decode cL_law 207 = .ok (.bipush (-30), 2) := by decide +kernel
theorem dL_law_209 : decode cL_law 209 = .ok (.if_icmp .ne 37, 3) := by decide +kernel
theorem dL_law_212 : decode cL_law 212 = .ok (.aload_n 1, 1) := by decide +kernel
theorem dL_law_213 : decode cL_law 213 = .ok (.bipush 7, 2) := by decide +kernel
theorem dL_law_215 : decode cL_law 215 = .ok (.iconst (-1), 1) := by decide +kernel
theorem dL_law_216 : decode cL_law 216 = .ok (.iconst 0, 1) := by decide +kernel
theorem dL_law_217 : decode cL_law 217 = .ok (.iconst 0, 1) := by decide +kernel
theorem dL_law_218 : decode cL_law 218 = .ok (.iconst 0, 1) := by decide +kernel
theorem dL_law_219 : decode cL_law 219 = .ok (.invokestatic 96, 3) := by decide +kernel
theorem dL_law_222 : decode cL_law 222 = .ok (.bipush (-30), 2) := by decide +kernel
theorem dL_law_224 : decode cL_law 224 = .ok (.if_icmp .ne 22, 3) := by decide +kernel
theorem dL_law_227 : decode cL_law 227 = .ok (.aload_n 1, 1) := by decide +kernel
theorem dL_law_228 : decode cL_law 228 = .ok (.bipush 8, 2) := by decide +kernel
theorem dL_law_230 : decode cL_law 230 = .ok (.iconst (-1), 1) := by decide +kernel
theorem dL_law_231 : decode cL_law 231 = .ok (.iconst 0, 1) := by decide +kernel
theorem dL_law_232 : decode cL_law 232 = .ok (.iconst 0, 1) := by decide +kernel
theorem dL_law_233 : decode cL_law 233 = .ok (.iconst 0, 1) := by decide +kernel
theorem dL_law_234 : decode cL_law 234 = .ok (.invokestatic 96, 3) := by decide +kernel
theorem dL_law_237 : decode cL_law 237 = .ok (.bipush (-30), 2) := by decide +kernel
theorem dL_law_239 : decode cL_law 239 = .ok (.if_icmp .ne 7, 3) := by decide +kernel
theorem dL_law_242 : decode cL_law 242 = .ok (.iconst 1, 1) := by decide +kernel
theorem dL_law_243 : decode cL_law 243 = .ok (.goto 4, 3) := by decide +kernel
theorem dL_law_246 : decode cL_law 246 = .ok (.iconst 0, 1) := by decide +kernel
theorem dL_law_247 : decode cL_law 247 = .ok (.ireturn, 1) := by decide +kernel
abbrev vwCl : List vw_C := [(RX0, TX0, 4), (RX1, TX1, 6), (RX2, TX2, 14), (RX3, TX3, 4), (RX4, TX4, 2), (RX5, TX5, 6)]
