theorem dL_law__558 : decode cL_law_ 558 = .ok (.aload_n 2, 1) := by decide +kernel
theorem dL_law__559 : decode cL_law_ 559 = .ok (.aload_n 0, 1) := by decide +kernel
theorem dL_law__560 : decode cL_law_ 560 = .ok (.iload 4, 2) := by decide +kernel
theorem dL_law__562 : decode cL_law_ 562 = .ok (.iconst 1, 1) := by decide +kernel
theorem dL_law__563 : decode cL_law_ 563 = .ok (.iadd, 1) := by decide +kernel
theorem dL_law__564 : decode cL_law_ 564 = .ok (.iaload, 1) := by decide +kernel
theorem dL_law__565 : decode cL_law_ 565 = .ok (.aload_n 0, 1) := by decide +kernel
theorem dL_law__566 : decode cL_law_ 566 = .ok (.iload 4, 2) := by decide +kernel
theorem dL_law__568 : decode cL_law_ 568 = .ok (.iconst 2, 1) := by decide +kernel
theorem dL_law__569 : decode cL_law_ 569 = .ok (.iadd, 1) := by decide +kernel
theorem dL_law__570 : decode cL_law_ 570 = .ok (.iaload, 1) := by decide +kernel
theorem dL_law__571 : decode cL_law_ 571 = .ok (.invokevirtual 158, 3) := by decide +kernel
theorem dL_law__574 : decode cL_law_ 574 = .ok (.istore 6, 2) := by decide +kernel
theorem dL_law__576 : decode cL_law_ 576 = .ok (.aload_n 2, 1) := by decide +kernel
theorem dL_law__577 : decode cL_law_ 577 = .ok (.invokevirtual 134, 3) := by decide +kernel
theorem dL_law__580 : decode cL_law_ 580 = .ok (.iload 5, 2) := by decide +kernel
theorem dL_law__582 : decode cL_law_ 582 = .ok (.if_icmp .eq 5, 3) := by decide +kernel
theorem dL_law__585 : decode cL_law_ 585 = .ok (.iconst 0, 1) := by decide +kernel
theorem dL_law__586 : decode cL_law_ 586 = .ok (.ireturn, 1) := by decide +kernel
theorem dL_law__587 : decode cL_law_ 587 = .ok (.iload 5, 2) := by decide +kernel
theorem dL_law__589 : decode cL_law_ 589 = .ok (.ifCond .ne 15, 3) := by decide +kernel
theorem dL_law__592 : decode cL_law_ 592 = .ok (.aload_n 3, 1) := by decide +kernel
theorem dL_law__593 : decode cL_law_ 593 = .ok (.iconst 0, 1) := by decide +kernel
theorem dL_law__594 : decode cL_law_ 594 = .ok (.laload, 1) := by decide +kernel
theorem dL_law__595 : decode cL_law_ 595 = .ok (.iload 6, 2) := by decide +kernel
theorem dL_law__597 : decode cL_law_ 597 = .ok (.i2l, 1) := by decide +kernel
theorem dL_law__598 : decode cL_law_ 598 = .ok (.lcmp, 1) := by decide +kernel
theorem dL_law__599 : decode cL_law_ 599 = .ok (.ifCond .eq 5, 3) := by decide +kernel
theorem dL_law__602 : decode cL_law_ 602 = .ok (.iconst 0, 1) := by decide +kernel
theorem dL_law__603 : decode cL_law_ 603 = .ok (.ireturn, 1) := by decide +kernel
theorem dL_law__604 : decode cL_law_ 604 = .ok (.goto 2203, 3) := by decide +kernel
theorem dL_law__607 : decode cL_law_ 607 = .ok (.aload_n 1, 1) := by decide +kernel
theorem dL_law__608 : decode cL_law_ 608 = .ok (.aload_n 0, 1) := by decide +kernel
theorem dL_law__609 : decode cL_law_ 609 = .ok (.iload 4, 2) := by decide +kernel
theorem dL_law__611 : decode cL_law_ 611 = .ok (.iconst 1, 1) := by decide +kernel
theorem dL_law__612 : decode cL_law_ 612 = .ok (.iadd, 1) := by decide +kernel
theorem dL_law__613 : decode cL_law_ 613 = .ok (.iaload, 1) := by decide +kernel
theorem dL_law__614 : decode cL_law_ 614 = .ok (.aload_n 0, 1) := by decide +kernel
theorem dL_law__615 : decode cL_law_ 615 = .ok (.iload 4, 2) := by decide +kernel
theorem dL_law__617 : decode cL_law_ 617 = .ok (.iconst 2, 1) := by decide +kernel
theorem dL_law__618 : decode cL_law_ 618 = .ok (.iadd, 1) := by decide +kernel
theorem dL_law__619 : decode cL_law_ 619 = .ok (.iaload, 1) := by decide +kernel
theorem dL_law__620 : decode cL_law_ 620 = .ok (.aload_n 3, 1) := by decide +kernel
theorem dL_law__621 : decode cL_law_ 621 = .ok (.invokestatic 159, 3) := by decide +kernel
theorem dL_law__624 : decode cL_law_ 624 = .ok (.istore 5, 2) := by decide +kernel
theorem dL_law__626 : decode cL_law_ 626 = .ok (.aload_n 2, 1) := by decide +kernel
theorem dL_law__627 : decode cL_law_ 627 = .ok (.aload_n 0, 1) := by decide +kernel
theorem dL_law__628 : decode cL_law_ 628 = .ok (.iload 4, 2) := by decide +kernel
theorem dL_law__630 : decode cL_law_ 630 = .ok (.iconst 1, 1) := by decide +kernel
theorem dL_law__631 : decode cL_law_ 631 = .ok (.iadd, 1) := by decide +kernel
theorem dL_law__632 : decode cL_law_ 632 = .ok (.iaload, 1) := by decide +kernel
theorem dL_law__633 : decode cL_law_ 633 = .ok (.aload_n 0, 1) := by decide +kernel
theorem dL_law__634 : decode cL_law_ 634 = .ok (.iload 4, 2) := by decide +kernel
theorem dL_law__636 : decode cL_law_ 636 = .ok (.iconst 2, 1) := by decide +kernel
theorem dL_law__637 : decode cL_law_ 637 = .ok (.iadd, 1) := by decide +kernel
theorem dL_law__638 : decode cL_law_ 638 = .ok (.iaload, 1) := by decide +kernel
theorem dL_law__639 : decode cL_law_ 639 = .ok (.invokevirtual 161, 3) := by decide +kernel
theorem dL_law__642 : decode cL_law_ 642 = .ok (.istore 6, 2) := by decide +kernel
theorem dL_law__644 : decode cL_law_ 644 = .ok (.aload_n 2, 1) := by decide +kernel
theorem dL_law__645 : decode cL_law_ 645 = .ok (.invokevirtual 134, 3) := by decide +kernel
theorem dL_law__648 : decode cL_law_ 648 = .ok (.iload 5, 2) := by decide +kernel
theorem dL_law__650 : decode cL_law_ 650 = .ok (.if_icmp .eq 5, 3) := by decide +kernel
theorem dL_law__653 : decode cL_law_ 653 = .ok (.iconst 0, 1) := by decide +kernel
theorem dL_law__654 : decode cL_law_ 654 = .ok (.ireturn, 1) := by decide +kernel
theorem dL_law__655 : decode cL_law_ 655 = .ok (.iload 5, 2) := by decide +kernel
theorem dL_law__657 : decode cL_law_ 657 = .ok (.ifCond .ne 15, 3) := by decide +kernel
theorem dL_law__660 : decode cL_law_ 660 = .ok (.aload_n 3, 1) := by decide +kernel
theorem dL_law__661 : decode cL_law_ 661 = .ok (.iconst 0, 1) := by decide +kernel
theorem dL_law__662 : decode cL_law_ 662 = .ok (.laload, 1) := by decide +kernel
theorem dL_law__663 : decode cL_law_ 663 = .ok (.iload 6, 2) := by decide +kernel
theorem dL_law__665 : decode cL_law_ 665 = .ok (.i2l, 1) := by decide +kernel
theorem dL_law__666 : decode cL_law_ 666 = .ok (.lcmp, 1) := by decide +kernel
theorem dL_law__667 : decode cL_law_ 667 = .ok (.ifCond .eq 5, 3) := by decide +kernel
theorem dL_law__670 : decode cL_law_ 670 = .ok (.iconst 0, 1) := by decide +kernel
theorem dL_law__671 : decode cL_law_ 671 = .ok (.ireturn, 1) := by decide +kernel
theorem dL_law__672 : decode cL_law_ 672 = .ok (.goto 2135, 3) := by decide +kernel
theorem dL_law__675 : decode cL_law_ 675 = .ok (.aload_n 1, 1) := by decide +kernel
theorem dL_law__676 : decode cL_law_ 676 = .ok (.aload_n 0, 1) := by decide +kernel
theorem dL_law__677 : decode cL_law_ 677 = .ok (.iload 4, 2) := by decide +kernel
theorem dL_law__679 : decode cL_law_ 679 = .ok (.iconst 1, 1) := by decide +kernel
theorem dL_law__680 : decode cL_law_ 680 = .ok (.iadd, 1) := by decide +kernel
theorem dL_law__681 : decode cL_law_ 681 = .ok (.iaload, 1) := by decide +kernel
theorem dL_law__682 : decode cL_law_ 682 = .ok (.aload_n 0, 1) := by decide +kernel
theorem dL_law__683 : decode cL_law_ 683 = .ok (.iload 4, 2) := by decide +kernel
theorem dL_law__685 : decode cL_law_ 685 = .ok (.iconst 2, 1) := by decide +kernel
theorem dL_law__686 : decode cL_law_ 686 = .ok (.iadd, 1) := by decide +kernel
theorem dL_law__687 : decode cL_law_ 687 = .ok (.iaload, 1) := by decide +kernel
theorem dL_law__688 : decode cL_law_ 688 = .ok (.aload_n 3, 1) := by decide +kernel
theorem dL_law__689 : decode cL_law_ 689 = .ok (.invokestatic 162, 3) := by decide +kernel
theorem dL_law__692 : decode cL_law_ 692 = .ok (.istore 5, 2) := by decide +kernel
theorem dL_law__694 : decode cL_law_ 694 = .ok (.aload_n 2, 1) := by decide +kernel
theorem dL_law__695 : decode cL_law_ 695 = .ok (.aload_n 0, 1) := by decide +kernel
theorem dL_law__696 : decode cL_law_ 696 = .ok (.iload 4, 2) := by decide +kernel
theorem dL_law__698 : decode cL_law_ 698 = .ok (.iconst 1, 1) := by decide +kernel
theorem dL_law__699 : decode cL_law_ 699 = .ok (.iadd, 1) := by decide +kernel
theorem dL_law__700 : decode cL_law_ 700 = .ok (.iaload, 1) := by decide +kernel
theorem dL_law__701 : decode cL_law_ 701 = .ok (.aload_n 0, 1) := by decide +kernel
theorem dL_law__702 : decode cL_law_ 702 = .ok (.iload 4, 2) := by decide +kernel
theorem dL_law__704 : decode cL_law_ 704 = .ok (.iconst 2, 1) := by decide +kernel
theorem dL_law__705 : decode cL_law_ 705 = .ok (.iadd, 1) := by decide +kernel
theorem dL_law__706 : decode cL_law_ 706 = .ok (.iaload, 1) := by decide +kernel
theorem dL_law__707 : decode cL_law_ 707 = .ok (.invokevirtual 164, 3) := by decide +kernel
theorem dL_law__710 : decode cL_law_ 710 = .ok (.istore 6, 2) := by decide +kernel
theorem dL_law__712 : decode cL_law_ 712 = .ok (.aload_n 2, 1) := by decide +kernel
theorem dL_law__713 : decode cL_law_ 713 = .ok (.invokevirtual 134, 3) := by decide +kernel
theorem dL_law__716 : decode cL_law_ 716 = .ok (.iload 5, 2) := by decide +kernel
theorem dL_law__718 : decode cL_law_ 718 = .ok (.if_icmp .eq 5, 3) := by decide +kernel
theorem dL_law__721 : decode cL_law_ 721 = .ok (.iconst 0, 1) := by decide +kernel
theorem dL_law__722 : decode cL_law_ 722 = .ok (.ireturn, 1) := by decide +kernel
theorem dL_law__723 : decode cL_law_ 723 = .ok (.iload 5, 2) := by decide +kernel
theorem dL_law__725 : decode cL_law_ 725 = .ok (.ifCond .ne 15, 3) := by decide +kernel
theorem dL_law__728 : decode cL_law_ 728 = .ok (.aload_n 3, 1) := by decide +kernel
theorem dL_law__729 : decode cL_law_ 729 = .ok (.iconst 0, 1) := by decide +kernel
theorem dL_law__730 : decode cL_law_ 730 = .ok (.laload, 1) := by decide +kernel
theorem dL_law__731 : decode cL_law_ 731 = .ok (.iload 6, 2) := by decide +kernel
theorem dL_law__733 : decode cL_law_ 733 = .ok (.i2l, 1) := by decide +kernel
theorem dL_law__734 : decode cL_law_ 734 = .ok (.lcmp, 1) := by decide +kernel
theorem dL_law__735 : decode cL_law_ 735 = .ok (.ifCond .eq 5, 3) := by decide +kernel
theorem dL_law__738 : decode cL_law_ 738 = .ok (.iconst 0, 1) := by decide +kernel
theorem dL_law__739 : decode cL_law_ 739 = .ok (.ireturn, 1) := by decide +kernel
theorem dL_law__740 : decode cL_law_ 740 = .ok (.goto 2067, 3) := by decide +kernel
theorem dL_law__743 : decode cL_law_ 743 = .ok (.aload_n 1, 1) := by decide +kernel
theorem dL_law__744 : decode cL_law_ 744 = .ok (.aload_n 0, 1) := by decide +kernel
theorem dL_law__745 : decode cL_law_ 745 = .ok (.iload 4, 2) := by decide +kernel
theorem dL_law__747 : decode cL_law_ 747 = .ok (.iconst 1, 1) := by decide +kernel
theorem dL_law__748 : decode cL_law_ 748 = .ok (.iadd, 1) := by decide +kernel
theorem dL_law__749 : decode cL_law_ 749 = .ok (.iaload, 1) := by decide +kernel
theorem dL_law__750 : decode cL_law_ 750 = .ok (.aload_n 0, 1) := by decide +kernel
theorem dL_law__751 : decode cL_law_ 751 = .ok (.iload 4, 2) := by decide +kernel
theorem dL_law__753 : decode cL_law_ 753 = .ok (.iconst 2, 1) := by decide +kernel
theorem dL_law__754 : decode cL_law_ 754 = .ok (.iadd, 1) := by decide +kernel
theorem dL_law__755 : decode cL_law_ 755 = .ok (.iaload, 1) := by decide +kernel
theorem dL_law__756 : decode cL_law_ 756 = .ok (.aload_n 3, 1) := by decide +kernel
theorem dL_law__757 : decode cL_law_ 757 = .ok (.invokestatic 165, 3) := by decide +kernel
theorem dL_law__760 : decode cL_law_ 760 = .ok (.istore 5, 2) := by decide +kernel
theorem dL_law__762 : decode cL_law_ 762 = .ok (.aload_n 2, 1) := by decide +kernel
theorem dL_law__763 : decode cL_law_ 763 = .ok (.aload_n 0, 1) := by decide +kernel
theorem dL_law__764 : decode cL_law_ 764 = .ok (.iload 4, 2) := by decide +kernel
theorem dL_law__766 : decode cL_law_ 766 = .ok (.iconst 1, 1) := by decide +kernel
theorem dL_law__767 : decode cL_law_ 767 = .ok (.iadd, 1) := by decide +kernel
theorem dL_law__768 : decode cL_law_ 768 = .ok (.iaload, 1) := by decide +kernel
theorem dL_law__769 : decode cL_law_ 769 = .ok (.aload_n 0, 1) := by decide +kernel
theorem dL_law__770 : decode cL_law_ 770 = .ok (.iload 4, 2) := by decide +kernel
theorem dL_law__772 : decode cL_law_ 772 = .ok (.iconst 2, 1) := by decide +kernel
theorem dL_law__773 : decode cL_law_ 773 = .ok (.iadd, 1) := by decide +kernel
theorem dL_law__774 : decode cL_law_ 774 = .ok (.iaload, 1) := by decide +kernel
theorem dL_law__775 : decode cL_law_ 775 = .ok (.invokevirtual 167, 3) := by decide +kernel
theorem dL_law__778 : decode cL_law_ 778 = .ok (.istore 6, 2) := by decide +kernel
theorem dL_law__780 : decode cL_law_ 780 = .ok (.aload_n 2, 1) := by decide +kernel
theorem dL_law__781 : decode cL_law_ 781 = .ok (.invokevirtual 134, 3) := by decide +kernel
theorem dL_law__784 : decode cL_law_ 784 = .ok (.iload 5, 2) := by decide +kernel
theorem dL_law__786 : decode cL_law_ 786 = .ok (.if_icmp .eq 5, 3) := by decide +kernel
theorem dL_law__789 : decode cL_law_ 789 = .ok (.iconst 0, 1) := by decide +kernel
theorem dL_law__790 : decode cL_law_ 790 = .ok (.ireturn, 1) := by decide +kernel
theorem dL_law__791 : decode cL_law_ 791 = .ok (.iload 5, 2) := by decide +kernel
theorem dL_law__793 : decode cL_law_ 793 = .ok (.ifCond .ne 15, 3) := by decide +kernel
theorem dL_law__796 : decode cL_law_ 796 = .ok (.aload_n 3, 1) := by decide +kernel
theorem dL_law__797 : decode cL_law_ 797 = .ok (.iconst 0, 1) := by decide +kernel
theorem dL_law__798 : decode cL_law_ 798 = .ok (.laload, 1) := by decide +kernel
theorem dL_law__799 : decode cL_law_ 799 = .ok (.iload 6, 2) := by decide +kernel
theorem dL_law__801 : decode cL_law_ 801 = .ok (.i2l, 1) := by decide +kernel
theorem dL_law__802 : decode cL_law_ 802 = .ok (.lcmp, 1) := by decide +kernel
theorem dL_law__803 : decode cL_law_ 803 = .ok (.ifCond .eq 5, 3) := by decide +kernel
theorem dL_law__806 : decode cL_law_ 806 = .ok (.iconst 0, 1) := by decide +kernel
theorem dL_law__807 : decode cL_law_ 807 = .ok (.ireturn, 1) := by decide +kernel
theorem dL_law__808 : decode cL_law_ 808 = .ok (.goto 1999, 3) := by decide +kernel
theorem dL_law__811 : decode cL_law_ 811 = .ok (.aload_n 1, 1) := by decide +kernel
theorem dL_law__812 : decode cL_law_ 812 = .ok (.aload_n 0, 1) := by decide +kernel
theorem dL_law__813 : decode cL_law_ 813 = .ok (.iload 4, 2) := by decide +kernel
theorem dL_law__815 : decode cL_law_ 815 = .ok (.iconst 1, 1) := by decide +kernel
theorem dL_law__816 : decode cL_law_ 816 = .ok (.iadd, 1) := by decide +kernel
theorem dL_law__817 : decode cL_law_ 817 = .ok (.iaload, 1) := by decide +kernel
theorem dL_law__818 : decode cL_law_ 818 = .ok (.aload_n 0, 1) := by decide +kernel
theorem dL_law__819 : decode cL_law_ 819 = .ok (.iload 4, 2) := by decide +kernel
theorem dL_law__821 : decode cL_law_ 821 = .ok (.iconst 2, 1) := by decide +kernel
theorem dL_law__822 : decode cL_law_ 822 = .ok (.iadd, 1) := by decide +kernel
theorem dL_law__823 : decode cL_law_ 823 = .ok (.iaload, 1) := by decide +kernel
theorem dL_law__824 : decode cL_law_ 824 = .ok (.aload_n 3, 1) := by decide +kernel
theorem dL_law__825 : decode cL_law_ 825 = .ok (.invokestatic 168, 3) := by decide +kernel
theorem dL_law__828 : decode cL_law_ 828 = .ok (.istore 5, 2) := by decide +kernel
theorem dL_law__830 : decode cL_law_ 830 = .ok (.aload_n 2, 1) := by decide +kernel
theorem dL_law__831 : decode cL_law_ 831 = .ok (.aload_n 0, 1) := by decide +kernel
theorem dL_law__832 : decode cL_law_ 832 = .ok (.iload 4, 2) := by decide +kernel
theorem dL_law__834 : decode cL_law_ 834 = .ok (.iconst 1, 1) := by decide +kernel
theorem dL_law__835 : decode cL_law_ 835 = .ok (.iadd, 1) := by decide +kernel
theorem dL_law__836 : decode cL_law_ 836 = .ok (.iaload, 1) := by decide +kernel
theorem dL_law__837 : decode cL_law_ 837 = .ok (.aload_n 0, 1) := by decide +kernel
theorem dL_law__838 : decode cL_law_ 838 = .ok (.iload 4, 2) := by decide +kernel
theorem dL_law__840 : decode cL_law_ 840 = .ok (.iconst 2, 1) := by decide +kernel
theorem dL_law__841 : decode cL_law_ 841 = .ok (.iadd, 1) := by decide +kernel
theorem dL_law__842 : decode cL_law_ 842 = .ok (.iaload, 1) := by decide +kernel
theorem dL_law__843 : decode cL_law_ 843 = .ok (.invokevirtual 170, 3) := by decide +kernel
theorem dL_law__846 : decode cL_law_ 846 = .ok (.istore 6, 2) := by decide +kernel
theorem dL_law__848 : decode cL_law_ 848 = .ok (.aload_n 2, 1) := by decide +kernel
theorem dL_law__849 : decode cL_law_ 849 = .ok (.invokevirtual 134, 3) := by decide +kernel
theorem dL_law__852 : decode cL_law_ 852 = .ok (.iload 5, 2) := by decide +kernel
theorem dL_law__854 : decode cL_law_ 854 = .ok (.if_icmp .eq 5, 3) := by decide +kernel
theorem dL_law__857 : decode cL_law_ 857 = .ok (.iconst 0, 1) := by decide +kernel
theorem dL_law__858 : decode cL_law_ 858 = .ok (.ireturn, 1) := by decide +kernel
theorem dL_law__859 : decode cL_law_ 859 = .ok (.iload 5, 2) := by decide +kernel
theorem dL_law__861 : decode cL_law_ 861 = .ok (.ifCond .ne 15, 3) := by decide +kernel
theorem dL_law__864 : decode cL_law_ 864 = .ok (.aload_n 3, 1) := by decide +kernel
theorem dL_law__865 : decode cL_law_ 865 = .ok (.iconst 0, 1) := by decide +kernel
theorem dL_law__866 : decode cL_law_ 866 = .ok (.laload, 1) := by decide +kernel
theorem dL_law__867 : decode cL_law_ 867 = .ok (.iload 6, 2) := by decide +kernel
theorem dL_law__869 : decode cL_law_ 869 = .ok (.i2l, 1) := by decide +kernel
theorem dL_law__870 : decode cL_law_ 870 = .ok (.lcmp, 1) := by decide +kernel
theorem dL_law__871 : decode cL_law_ 871 = .ok (.ifCond .eq 5, 3) := by decide +kernel
theorem dL_law__874 : decode cL_law_ 874 = .ok (.iconst 0, 1) := by decide +kernel
theorem dL_law__875 : decode cL_law_ 875 = .ok (.ireturn, 1) := by decide +kernel
theorem dL_law__876 : decode cL_law_ 876 = .ok (.goto 1931, 3) := by decide +kernel
theorem dL_law__879 : decode cL_law_ 879 = .ok (.aload_n 1, 1) := by decide +kernel
theorem dL_law__880 : decode cL_law_ 880 = .ok (.aload_n 0, 1) := by decide +kernel
theorem dL_law__881 : decode cL_law_ 881 = .ok (.iload 4, 2) := by decide +kernel
theorem dL_law__883 : decode cL_law_ 883 = .ok (.iconst 1, 1) := by decide +kernel
theorem dL_law__884 : decode cL_law_ 884 = .ok (.iadd, 1) := by decide +kernel
theorem dL_law__885 : decode cL_law_ 885 = .ok (.iaload, 1) := by decide +kernel
theorem dL_law__886 : decode cL_law_ 886 = .ok (.aload_n 0, 1) := by decide +kernel
theorem dL_law__887 : decode cL_law_ 887 = .ok (.iload 4, 2) := by decide +kernel
theorem dL_law__889 : decode cL_law_ 889 = .ok (.iconst 2, 1) := by decide +kernel
theorem dL_law__890 : decode cL_law_ 890 = .ok (.iadd, 1) := by decide +kernel
theorem dL_law__891 : decode cL_law_ 891 = .ok (.iaload, 1) := by decide +kernel
theorem dL_law__892 : decode cL_law_ 892 = .ok (.aload_n 3, 1) := by decide +kernel
theorem dL_law__893 : decode cL_law_ 893 = .ok (.invokestatic 171, 3) := by decide +kernel
theorem dL_law__896 : decode cL_law_ 896 = .ok (.istore 5, 2) := by decide +kernel
theorem dL_law__898 : decode cL_law_ 898 = .ok (.aload_n 2, 1) := by decide +kernel
theorem dL_law__899 : decode cL_law_ 899 = .ok (.aload_n 0, 1) := by decide +kernel
theorem dL_law__900 : decode cL_law_ 900 = .ok (.iload 4, 2) := by decide +kernel
theorem dL_law__902 : decode cL_law_ 902 = .ok (.iconst 1, 1) := by decide +kernel
theorem dL_law__903 : decode cL_law_ 903 = .ok (.iadd, 1) := by decide +kernel
theorem dL_law__904 : decode cL_law_ 904 = .ok (.iaload, 1) := by decide +kernel
theorem dL_law__905 : decode cL_law_ 905 = .ok (.aload_n 0, 1) := by decide +kernel
theorem dL_law__906 : decode cL_law_ 906 = .ok (.iload 4, 2) := by decide +kernel
theorem dL_law__908 : decode cL_law_ 908 = .ok (.iconst 2, 1) := by decide +kernel
theorem dL_law__909 : decode cL_law_ 909 = .ok (.iadd, 1) := by decide +kernel
theorem dL_law__910 : decode cL_law_ 910 = .ok (.iaload, 1) := by decide +kernel
theorem dL_law__911 : decode cL_law_ 911 = .ok (.invokevirtual 173, 3) := by decide +kernel
theorem dL_law__914 : decode cL_law_ 914 = .ok (.istore 6, 2) := by decide +kernel
theorem dL_law__916 : decode cL_law_ 916 = .ok (.aload_n 2, 1) := by decide +kernel
theorem dL_law__917 : decode cL_law_ 917 = .ok (.invokevirtual 134, 3) := by decide +kernel
theorem dL_law__920 : decode cL_law_ 920 = .ok (.iload 5, 2) := by decide +kernel
theorem dL_law__922 : decode cL_law_ 922 = .ok (.if_icmp .eq 5, 3) := by decide +kernel
theorem dL_law__925 : decode cL_law_ 925 = .ok (.iconst 0, 1) := by decide +kernel
theorem dL_law__926 : decode cL_law_ 926 = .ok (.ireturn, 1) := by decide +kernel
theorem dL_law__927 : decode cL_law_ 927 = .ok (.iload 5, 2) := by decide +kernel
theorem dL_law__929 : decode cL_law_ 929 = .ok (.ifCond .ne 15, 3) := by decide +kernel
theorem dL_law__932 : decode cL_law_ 932 = .ok (.aload_n 3, 1) := by decide +kernel
theorem dL_law__933 : decode cL_law_ 933 = .ok (.iconst 0, 1) := by decide +kernel
theorem dL_law__934 : decode cL_law_ 934 = .ok (.laload, 1) := by decide +kernel
theorem dL_law__935 : decode cL_law_ 935 = .ok (.iload 6, 2) := by decide +kernel
